/** Promises 1, 4, 5 and 11: a new object, copy, drop and state. */
public final class RegisterTest {
    private static final String NULL = "0 -1 -1";
    private static final Checks CHECKS = new Checks();

    private RegisterTest() {
    }

    public static void main(String[] args) {
        newObjectIsEmpty();
        objectsAreApart();
        copyTakesOver();
        copyOfEachToEach();
        copyRefuses();
        dropForgets();
        dropOfEach();
        dropRefuses();
        stateTellsKinds();
        stateTellsOfEach();
        stateRefuses();
        CHECKS.end();
    }

    private static void newObjectIsEmpty() {
        HeapPress heap = new HeapPress();
        for (int r = 0; r < 16; r++) {
            CHECKS.dueRegister("1: new", heap, r, NULL);
        }
        for (int what = 0; what < 3; what++) {
            CHECKS.due("1: new count " + what, heap.count(what), 0);
        }
    }

    private static void objectsAreApart() {
        HeapPress one = new HeapPress();
        one.make(0, false, 1);
        one.put(0, 0, 9);
        HeapPress other = new HeapPress();
        CHECKS.dueRegister("1: another new one", other, 0, NULL);
        CHECKS.due("1: another's first place", other.make(0, false, 1), 0);
        CHECKS.due("1: another's number", other.get(0, 0), 0);
        CHECKS.due("1: the first one's number", one.get(0, 0), 9);
    }

    private static void copyTakesOver() {
        HeapPress heap = new HeapPress();
        heap.make(0, false, 2);
        heap.make(15, false, 3);
        heap.copy(15, 0);
        CHECKS.dueRegister("4: copy(15, 0)", heap, 15, "2 0 2");
        CHECKS.dueRegister("4: copy(15, 0)", heap, 0, "2 0 2");
        heap.put(15, 1, 77);
        CHECKS.due("4: both are one object", heap.get(0, 1), 77);
        heap.copy(0, 0);
        CHECKS.dueRegister("4: copy(0, 0)", heap, 0, "2 0 2");
        heap.copy(0, 7);
        CHECKS.dueRegister("4: copy of null", heap, 0, NULL);
        CHECKS.dueRegister("4: copy of null", heap, 15, "2 0 2");
        CHECKS.due("4: copy makes nothing", heap.count(1), 2);
    }

    private static void copyOfEachToEach() {
        for (int r = 0; r < 16; r++) {
            for (int s = 0; s < 16; s++) {
                HeapPress heap = new HeapPress();
                for (int k = 0; k < 16; k++) {
                    heap.make(k, k % 2 == 0, 1);
                }
                heap.copy(r, s);
                for (int k = 0; k < 16; k++) {
                    CHECKS.due("4: copy(" + r + ", " + s + "): " + k, heap.state(k, 1), 2 * (k == r ? s : k));
                }
            }
        }
    }

    private static void copyRefuses() {
        HeapPress heap = new HeapPress();
        heap.make(0, true, 2);
        String before = Checks.look(heap);
        for (int x : Checks.outside(16)) {
            CHECKS.bad("4: copy(" + x + ", 0)", () -> heap.copy(x, 0));
            CHECKS.bad("4: copy(0, " + x + ")", () -> heap.copy(0, x));
            CHECKS.bad("4: copy(" + x + ", 1)", () -> heap.copy(x, 1));
        }
        CHECKS.dueSame("4: bad copy", heap, before);
    }

    private static void dropForgets() {
        HeapPress heap = new HeapPress();
        heap.make(0, true, 2);
        heap.copy(15, 0);
        heap.drop(15);
        CHECKS.dueRegister("5: drop(15)", heap, 15, NULL);
        CHECKS.dueRegister("5: drop(15)", heap, 0, "1 0 2");
        CHECKS.done("5: drop of null", () -> heap.drop(15));
        heap.drop(0);
        CHECKS.dueRegister("5: drop(0)", heap, 0, NULL);
        CHECKS.due("5: drop takes no object away", heap.count(1), 1);
        CHECKS.due("5: drop frees no cell", heap.count(0), 3);
        CHECKS.due("5: drop collects nothing", heap.count(2), 0);
    }

    private static void dropOfEach() {
        for (int r = 0; r < 16; r++) {
            HeapPress heap = new HeapPress();
            for (int k = 0; k < 16; k++) {
                heap.make(k, k % 2 == 0, 1);
            }
            heap.drop(r);
            for (int k = 0; k < 16; k++) {
                CHECKS.due("5: drop(" + r + "): " + k, heap.state(k, 1), k == r ? -1 : 2 * k);
            }
        }
    }

    private static void dropRefuses() {
        HeapPress heap = new HeapPress();
        heap.make(0, true, 2);
        String before = Checks.look(heap);
        for (int x : Checks.outside(16)) {
            CHECKS.bad("5: drop(" + x + ")", () -> heap.drop(x));
        }
        CHECKS.dueSame("5: bad drop", heap, before);
    }

    private static void stateTellsKinds() {
        HeapPress heap = new HeapPress();
        heap.make(1, true, 40);
        heap.make(2, false, 39);
        heap.weak(3, 1);
        heap.make(4, true, 0);
        heap.make(15, false, 0);
        CHECKS.dueRegister("11: LINKS", heap, 1, "1 0 40");
        CHECKS.dueRegister("11: NUMBERS", heap, 2, "2 41 39");
        CHECKS.dueRegister("11: WEAK", heap, 3, "3 81 1");
        CHECKS.dueRegister("11: LINKS of none", heap, 4, "1 83 0");
        CHECKS.dueRegister("11: NUMBERS of none", heap, 15, "2 84 0");
        CHECKS.dueRegister("11: null", heap, 0, NULL);
        heap.drop(1);
        heap.collect();
        CHECKS.dueRegister("11: WEAK whose object went", heap, 3, "3 40 1");
    }

    private static void stateTellsOfEach() {
        HeapPress heap = new HeapPress();
        for (int r = 0; r < 16; r++) {
            for (int what = 0; what < 3; what++) {
                CHECKS.due("11: of null", heap.state(r, what), what == 0 ? 0 : -1);
            }
            heap.make(r, r % 2 == 0, r);
        }
        int place = 0;
        for (int r = 0; r < 16; r++) {
            CHECKS.dueRegister("11: of each", heap, r, (r % 2 == 0 ? 1 : 2) + " " + place + " " + r);
            place += 1 + r;
        }
        CHECKS.due("11: it collects nothing", heap.count(2), 0);
    }

    private static void stateRefuses() {
        HeapPress heap = new HeapPress();
        heap.make(0, true, 2);
        for (int x : Checks.outside(16)) {
            for (int what = 0; what < 3; what++) {
                int w = what;
                CHECKS.bad("11: state(" + x + ", " + w + ")", () -> heap.state(x, w));
            }
        }
        for (int x : Checks.outside(3)) {
            CHECKS.bad("11: state(0, " + x + ")", () -> heap.state(0, x));
            CHECKS.bad("11: state(1, " + x + ") of null", () -> heap.state(1, x));
        }
    }
}
