/** Promises 6 to 9: link, follow, put and get. */
public final class ContentTest {
    private static final String NULL = "0 -1 -1";
    private static final int LINKS = 0;
    private static final int NUMBERS = 1;
    private static final int WEAK = 2;
    private static final int NO_LINKS = 3;
    private static final int NO_NUMBERS = 4;
    private static final int EMPTY = 5;
    private static final Checks CHECKS = new Checks();

    private ContentTest() {
    }

    public static void main(String[] args) {
        linkSets();
        linkOfForty();
        linkRefuses();
        followReads();
        followOfWeak();
        followRefuses();
        putAndGet();
        putOfForty();
        putRefuses();
        getRefuses();
        CHECKS.end();
    }

    /** An object of each kind in the registers that the constants name; register 5 and above are null. */
    private static HeapPress ofEachKind() {
        HeapPress heap = new HeapPress();
        heap.make(LINKS, true, 3);
        heap.make(NUMBERS, false, 3);
        heap.weak(WEAK, LINKS);
        heap.make(NO_LINKS, true, 0);
        heap.make(NO_NUMBERS, false, 0);
        return heap;
    }

    private static void linkSets() {
        HeapPress heap = ofEachKind();
        heap.link(LINKS, 0, NUMBERS);
        heap.link(LINKS, 1, LINKS);
        heap.link(LINKS, 2, WEAK);
        dueReference("6: first", heap, 0, "2 4 3");
        dueReference("6: to itself", heap, 1, "1 0 3");
        dueReference("6: to a weak one", heap, 2, "3 8 1");
        heap.link(LINKS, 0, NO_NUMBERS);
        dueReference("6: anew", heap, 0, "2 11 0");
        heap.link(LINKS, 0, EMPTY);
        dueReference("6: to null", heap, 0, NULL);
        dueReference("6: the next stays", heap, 1, "1 0 3");
        heap.copy(NUMBERS, NO_LINKS);
        heap.link(LINKS, 0, NUMBERS);
        heap.drop(NUMBERS);
        dueReference("6: drop leaves it", heap, 0, "1 10 0");
    }

    private static void dueReference(String what, HeapPress heap, int i, String want) {
        heap.follow(15, LINKS, i);
        CHECKS.dueRegister(what, heap, 15, want);
    }

    private static void linkOfForty() {
        for (int i = 0; i < 40; i++) {
            HeapPress heap = new HeapPress();
            heap.make(0, true, 40);
            heap.make(1, true, 40);
            heap.link(0, i, 1);
            heap.link(1, i, 0);
            CHECKS.due("6, 7: just reference " + i, Checks.contents(heap, 0, 15), justAt(i, NULL, "1 41 40"));
            CHECKS.due("6, 7: just reference " + i, Checks.contents(heap, 1, 15), justAt(i, NULL, "1 0 40"));
        }
    }

    /** Forty contents as Checks tells them: the i-th is another. */
    private static String justAt(int i, String most, String other) {
        return (most + "; ").repeat(i) + other + "; " + (most + "; ").repeat(39 - i);
    }

    private static void linkRefuses() {
        HeapPress heap = ofEachKind();
        String before = Checks.look(heap);
        for (int x : Checks.outside(16)) {
            CHECKS.bad("6: link(" + x + ", 0, 0)", () -> heap.link(x, 0, 0));
            CHECKS.bad("6: link(0, 0, " + x + ")", () -> heap.link(LINKS, 0, x));
            CHECKS.bad("6: link of null, s " + x, () -> heap.link(EMPTY, 0, x));
        }
        for (int x : Checks.outside(3)) {
            CHECKS.bad("6: link(0, " + x + ", 1)", () -> heap.link(LINKS, x, NUMBERS));
            CHECKS.missing("6: link of null, i " + x, () -> heap.link(EMPTY, x, NUMBERS));
        }
        CHECKS.bad("6: NUMBERS", () -> heap.link(NUMBERS, 0, LINKS));
        CHECKS.bad("6: NUMBERS, null", () -> heap.link(NUMBERS, 0, EMPTY));
        CHECKS.bad("6: WEAK", () -> heap.link(WEAK, 0, LINKS));
        CHECKS.bad("6: LINKS of none", () -> heap.link(NO_LINKS, 0, LINKS));
        CHECKS.missing("6: null", () -> heap.link(EMPTY, 0, LINKS));
        CHECKS.missing("6: null to null", () -> heap.link(EMPTY, 0, EMPTY));
        CHECKS.dueSame("6: refused link", heap, before);
        dueReference("6: refused link", heap, 0, NULL);
        dueReference("6: refused link", heap, 2, NULL);
    }

    private static void followReads() {
        HeapPress heap = ofEachKind();
        heap.link(LINKS, 2, NUMBERS);
        heap.follow(15, LINKS, 2);
        CHECKS.dueRegister("7: follow(15, 0, 2)", heap, 15, "2 4 3");
        heap.follow(15, LINKS, 0);
        CHECKS.dueRegister("7: a null reference", heap, 15, NULL);
        CHECKS.dueRegister("7: the LINKS stays", heap, LINKS, "1 0 3");
        heap.follow(LINKS, LINKS, 2);
        CHECKS.dueRegister("7: onto its own register", heap, LINKS, "2 4 3");
        CHECKS.due("7: makes nothing", heap.count(1), 5);
    }

    private static void followOfWeak() {
        HeapPress heap = ofEachKind();
        heap.follow(6, WEAK, 0);
        CHECKS.dueRegister("7: of WEAK", heap, 6, "1 0 3");
        heap.drop(6);
        heap.drop(LINKS);
        heap.follow(6, WEAK, 0);
        CHECKS.dueRegister("7: of WEAK, not collected yet", heap, 6, "1 0 3");
        heap.drop(6);
        heap.collect();
        heap.copy(6, NUMBERS);
        CHECKS.done("7: of WEAK whose object went", () -> heap.follow(6, WEAK, 0));
        CHECKS.dueRegister("7: of WEAK whose object went", heap, 6, NULL);
        CHECKS.bad("7: of WEAK whose object went, 1", () -> heap.follow(6, WEAK, 1));
    }

    private static void followRefuses() {
        HeapPress heap = ofEachKind();
        String before = Checks.look(heap);
        for (int x : Checks.outside(16)) {
            CHECKS.bad("7: follow(" + x + ", 0, 0)", () -> heap.follow(x, LINKS, 0));
            CHECKS.bad("7: follow(0, " + x + ", 0)", () -> heap.follow(LINKS, x, 0));
            CHECKS.bad("7: follow of null, r " + x, () -> heap.follow(x, EMPTY, 0));
        }
        for (int x : Checks.outside(3)) {
            CHECKS.bad("7: follow(1, 0, " + x + ")", () -> heap.follow(NUMBERS, LINKS, x));
            CHECKS.missing("7: follow of null, i " + x, () -> heap.follow(NUMBERS, EMPTY, x));
        }
        for (int x : Checks.outside(1)) {
            CHECKS.bad("7: follow(1, 2, " + x + ")", () -> heap.follow(NUMBERS, WEAK, x));
        }
        CHECKS.bad("7: NUMBERS", () -> heap.follow(LINKS, NUMBERS, 0));
        CHECKS.bad("7: LINKS of none", () -> heap.follow(NUMBERS, NO_LINKS, 0));
        CHECKS.missing("7: null", () -> heap.follow(NUMBERS, EMPTY, 0));
        CHECKS.dueSame("7: refused follow", heap, before);
    }

    private static void putAndGet() {
        HeapPress heap = ofEachKind();
        long[] longs = {0, -1, 1, Long.MIN_VALUE, Long.MAX_VALUE, 1L << 32, -(1L << 40), 299, 300};
        for (long v : longs) {
            for (int i = 0; i < 3; i++) {
                heap.put(NUMBERS, i, v + i);
            }
            for (int i = 0; i < 3; i++) {
                CHECKS.due("8, 9: number " + i, heap.get(NUMBERS, i), v + i);
            }
        }
        CHECKS.dueRegister("8: the object stays", heap, NUMBERS, "2 4 3");
        CHECKS.dueRegister("8: the next stays", heap, WEAK, "3 8 1");
        HeapPress big = new HeapPress();
        big.make(15, false, 40);
        big.put(15, 39, -7);
        CHECKS.due("9: last number", big.get(15, 39), -7);
        CHECKS.due("9: the one before", big.get(15, 38), 0);
    }

    private static void putOfForty() {
        for (int i = 0; i < 40; i++) {
            HeapPress heap = new HeapPress();
            heap.make(0, false, 40);
            heap.make(1, false, 40);
            heap.put(0, i, Long.MIN_VALUE);
            heap.put(1, i, Long.MAX_VALUE);
            CHECKS.due("8, 9: just number " + i, Checks.contents(heap, 0, 15), justAt(i, "0", "" + Long.MIN_VALUE));
            CHECKS.due("8, 9: just number " + i, Checks.contents(heap, 1, 15), justAt(i, "0", "" + Long.MAX_VALUE));
        }
    }

    private static void putRefuses() {
        HeapPress heap = ofEachKind();
        String before = Checks.look(heap);
        for (int x : Checks.outside(16)) {
            CHECKS.bad("8: put(" + x + ", 0, 5)", () -> heap.put(x, 0, 5));
        }
        for (int x : Checks.outside(3)) {
            CHECKS.bad("8: put(1, " + x + ", 5)", () -> heap.put(NUMBERS, x, 5));
            CHECKS.missing("8: put of null, i " + x, () -> heap.put(EMPTY, x, 5));
        }
        CHECKS.bad("8: LINKS", () -> heap.put(LINKS, 0, 5));
        CHECKS.bad("8: WEAK", () -> heap.put(WEAK, 0, 5));
        CHECKS.bad("8: NUMBERS of none", () -> heap.put(NO_NUMBERS, 0, 5));
        CHECKS.missing("8: null", () -> heap.put(EMPTY, 0, 5));
        CHECKS.dueSame("8: refused put", heap, before);
        for (int i = 0; i < 3; i++) {
            CHECKS.due("8: refused put leaves number " + i, heap.get(NUMBERS, i), 0);
            dueReference("8: refused put leaves link", heap, i, NULL);
        }
    }

    private static void getRefuses() {
        HeapPress heap = ofEachKind();
        String before = Checks.look(heap);
        for (int x : Checks.outside(16)) {
            CHECKS.bad("9: get(" + x + ", 0)", () -> heap.get(x, 0));
        }
        for (int x : Checks.outside(3)) {
            CHECKS.bad("9: get(1, " + x + ")", () -> heap.get(NUMBERS, x));
            CHECKS.missing("9: get of null, i " + x, () -> heap.get(EMPTY, x));
        }
        CHECKS.bad("9: LINKS", () -> heap.get(LINKS, 0));
        CHECKS.bad("9: WEAK", () -> heap.get(WEAK, 0));
        CHECKS.bad("9: NUMBERS of none", () -> heap.get(NO_NUMBERS, 0));
        CHECKS.missing("9: null", () -> heap.get(EMPTY, 0));
        CHECKS.dueSame("9: refused get", heap, before);
    }
}
