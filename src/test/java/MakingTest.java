/** Promises 2 and 3: make and weak, with and without room. */
public final class MakingTest {
    private static final String NULL = "0 -1 -1";
    private static final Checks CHECKS = new Checks();

    private MakingTest() {
    }

    public static void main(String[] args) {
        makePlacesBehindTheLast();
        makeRefuses();
        makeFillsToTheLastCell();
        makeCollectsOnlyWithoutRoom();
        makeKeepsTheRegistersOldObject();
        fullMakeChangesNothing();
        fullMakeMayHaveCollected();
        newContentsAreFresh();
        weakRefers();
        weakOnItsOwnRegister();
        weakRefuses();
        weakCollectsWithoutRoom();
        weakIsFull();
        CHECKS.end();
    }

    /** Registers 0 .. 6 with seven of 41 cells: 287, so that 13 are left. */
    private static HeapPress withThirteenLeft() {
        HeapPress heap = new HeapPress();
        for (int r = 0; r < 7; r++) {
            heap.make(r, r % 2 == 0, 40);
        }
        return heap;
    }

    private static void makePlacesBehindTheLast() {
        HeapPress heap = new HeapPress();
        CHECKS.due("2: first", heap.make(0, true, 3), 0);
        CHECKS.due("2: second", heap.make(15, false, 0), 4);
        CHECKS.due("2: third", heap.make(0, true, 0), 5);
        CHECKS.due("2: fourth", heap.make(1, false, 40), 6);
        CHECKS.due("2: fifth", heap.make(2, true, 40), 47);
        CHECKS.dueRegister("2: made anew", heap, 0, "1 5 0");
        CHECKS.dueRegister("2: NUMBERS", heap, 1, "2 6 40");
        CHECKS.dueRegister("2: LINKS", heap, 2, "1 47 40");
        CHECKS.dueRegister("2: NUMBERS of none", heap, 15, "2 4 0");
        CHECKS.due("2: cells", heap.count(0), 88);
        CHECKS.due("2: objects", heap.count(1), 5);
    }

    private static void makeRefuses() {
        HeapPress heap = withThirteenLeft();
        String before = Checks.look(heap);
        for (int x : Checks.outside(16)) {
            CHECKS.bad("2: make(" + x + ", true, 1)", () -> heap.make(x, true, 1));
            CHECKS.bad("2: make(" + x + ", false, 40)", () -> heap.make(x, false, 40));
        }
        for (int x : Checks.outside(41)) {
            CHECKS.bad("2: make(0, true, " + x + ")", () -> heap.make(0, true, x));
            CHECKS.bad("2: make(9, false, " + x + ")", () -> heap.make(9, false, x));
        }
        CHECKS.dueSame("2: bad make", heap, before);
    }

    private static void makeFillsToTheLastCell() {
        HeapPress heap = withThirteenLeft();
        CHECKS.due("2: just fits", heap.make(7, false, 12), 287);
        CHECKS.due("2: cells", heap.count(0), 300);
        CHECKS.due("2: not collected", heap.count(2), 0);
        heap.put(7, 11, 5);
        CHECKS.due("2: last cell", heap.get(7, 11), 5);
        CHECKS.full("2: one of one cell more", () -> heap.make(8, true, 0));
        CHECKS.due("2: collected for it", heap.count(2), 1);

        HeapPress small = new HeapPress();
        for (int k = 0; k < 300; k++) {
            CHECKS.due("2: small " + k, small.make(0, false, 0), k);
        }
        CHECKS.due("2: small objects", small.count(1), 300);
        CHECKS.due("2: behind them", small.make(1, false, 0), 1);
        CHECKS.due("2: small objects left", small.count(1), 2);
    }

    private static void makeCollectsOnlyWithoutRoom() {
        HeapPress heap = withThirteenLeft();
        heap.drop(0);
        heap.drop(3);
        CHECKS.due("2: with room", heap.make(8, true, 11), 287);
        CHECKS.due("2: with room", heap.count(2), 0);
        CHECKS.due("2: without room", heap.make(9, true, 1), 217);
        CHECKS.due("2: without room", heap.count(2), 1);
        CHECKS.dueRegister("2: moved", heap, 1, "2 0 40");
        CHECKS.dueRegister("2: moved", heap, 2, "1 41 40");
        CHECKS.dueRegister("2: moved", heap, 8, "1 205 11");
        CHECKS.due("2: cells", heap.count(0), 219);
        CHECKS.due("2: objects", heap.count(1), 7);
    }

    private static void makeKeepsTheRegistersOldObject() {
        HeapPress heap = withThirteenLeft();
        CHECKS.full("2: make(0, true, 13)", () -> heap.make(0, true, 13));
        CHECKS.dueRegister("2: old object", heap, 0, "1 0 40");
        heap.drop(1);
        CHECKS.due("2: make(0, true, 40)", heap.make(0, true, 40), 246);
        CHECKS.due("2: old object is still there", heap.count(1), 7);
        CHECKS.due("2: old object goes", heap.collect(), 1);
    }

    private static void fullMakeChangesNothing() {
        HeapPress heap = withThirteenLeft();
        heap.put(1, 39, 8);
        heap.link(0, 39, 1);
        CHECKS.full("2: make(7, false, 13)", () -> heap.make(7, false, 13));
        CHECKS.dueRegister("2: full", heap, 7, NULL);
        CHECKS.due("2: full: cells", heap.count(0), 287);
        CHECKS.due("2: full: objects", heap.count(1), 7);
        CHECKS.due("2: full: collected", heap.count(2), 1);
        CHECKS.due("2: full: number", heap.get(1, 39), 8);
        heap.follow(8, 0, 39);
        CHECKS.dueRegister("2: full: link", heap, 8, "2 41 40");
        CHECKS.due("2: fits after it", heap.make(7, false, 12), 287);
    }

    private static void fullMakeMayHaveCollected() {
        HeapPress heap = withThirteenLeft();
        heap.make(15, true, 5);
        heap.drop(15);
        heap.make(14, true, 5);
        CHECKS.full("2: make(9, true, 40)", () -> heap.make(9, true, 40));
        CHECKS.dueRegister("2: moved though full", heap, 14, "1 287 5");
        CHECKS.due("2: gone though full", heap.count(1), 8);
        CHECKS.due("2: cells though full", heap.count(0), 293);
    }

    private static void newContentsAreFresh() {
        HeapPress heap = new HeapPress();
        heap.make(0, false, 40);
        for (int i = 0; i < 40; i++) {
            heap.put(0, i, i - 20);
        }
        heap.drop(0);
        heap.collect();
        heap.make(1, true, 20);
        heap.make(2, false, 18);
        for (int i = 0; i < 20; i++) {
            heap.follow(3, 1, i);
            CHECKS.dueRegister("2: fresh link " + i, heap, 3, NULL);
        }
        for (int i = 0; i < 18; i++) {
            CHECKS.due("2: fresh number " + i, heap.get(2, i), 0);
        }
        heap.link(1, 0, 2);
        heap.drop(1);
        heap.drop(2);
        heap.collect();
        heap.make(4, false, 1);
        CHECKS.due("2: number where a link was", heap.get(4, 0), 0);
    }

    private static void weakRefers() {
        HeapPress heap = new HeapPress();
        heap.make(0, true, 3);
        CHECKS.due("3: weak(15, 0)", heap.weak(15, 0), 4);
        CHECKS.dueRegister("3: weak(15, 0)", heap, 15, "3 4 1");
        CHECKS.dueRegister("3: weak(15, 0)", heap, 0, "1 0 3");
        CHECKS.due("3: weak of weak", heap.weak(1, 15), 6);
        CHECKS.due("3: cells", heap.count(0), 8);
        CHECKS.due("3: objects", heap.count(1), 3);
        heap.follow(2, 1, 0);
        CHECKS.dueRegister("3: to the weak one", heap, 2, "3 4 1");
        heap.follow(2, 2, 0);
        CHECKS.dueRegister("3: to the object", heap, 2, "1 0 3");
    }

    private static void weakOnItsOwnRegister() {
        HeapPress heap = new HeapPress();
        heap.make(3, false, 2);
        CHECKS.due("3: weak(3, 3)", heap.weak(3, 3), 3);
        heap.follow(4, 3, 0);
        CHECKS.dueRegister("3: its object", heap, 4, "2 0 2");
        heap.drop(4);
        CHECKS.due("3: nothing else leads to it", heap.collect(), 1);
        CHECKS.dueRegister("3: the weak one", heap, 3, "3 0 1");
        heap.follow(4, 3, 0);
        CHECKS.dueRegister("3: its object went", heap, 4, NULL);
    }

    private static void weakRefuses() {
        HeapPress heap = withThirteenLeft();
        heap.make(7, true, 12);
        String before = Checks.look(heap);
        for (int x : Checks.outside(16)) {
            CHECKS.bad("3: weak(" + x + ", 0)", () -> heap.weak(x, 0));
            CHECKS.bad("3: weak(0, " + x + ")", () -> heap.weak(0, x));
            CHECKS.bad("3: weak(" + x + ", 9) of null", () -> heap.weak(x, 9));
        }
        CHECKS.missing("3: weak(0, 9) without room", () -> heap.weak(0, 9));
        CHECKS.missing("3: weak(9, 9)", () -> heap.weak(9, 9));
        CHECKS.dueSame("3: refused weak", heap, before);
    }

    private static void weakCollectsWithoutRoom() {
        HeapPress heap = withThirteenLeft();
        heap.make(7, false, 11);
        heap.put(5, 0, 123);
        heap.drop(0);
        CHECKS.due("3: weak(9, 5) without room", heap.weak(9, 5), 258);
        CHECKS.due("3: collected", heap.count(2), 1);
        CHECKS.dueRegister("3: its object moved", heap, 5, "2 164 40");
        heap.follow(10, 9, 0);
        CHECKS.dueRegister("3: refers to where it is now", heap, 10, "2 164 40");
        CHECKS.due("3: the same object", heap.get(10, 0), 123);
    }

    private static void weakIsFull() {
        HeapPress heap = withThirteenLeft();
        heap.make(7, false, 9);
        CHECKS.due("3: just fits", heap.weak(8, 0), 297);
        CHECKS.full("3: one cell left", () -> heap.weak(9, 0));
        CHECKS.dueRegister("3: full", heap, 9, NULL);
        CHECKS.due("3: full: collected", heap.count(2), 1);
        CHECKS.due("3: full: cells", heap.count(0), 299);
        CHECKS.due("3: full: objects", heap.count(1), 9);
        CHECKS.full("3: its own register", () -> heap.weak(0, 0));
        CHECKS.dueRegister("3: its own register", heap, 0, "1 0 40");
    }
}
