/** Promises 10 and 12: collect and count. */
public final class CollectTest {
    private static final String NULL = "0 -1 -1";
    private static final Checks CHECKS = new Checks();

    private CollectTest() {
    }

    public static void main(String[] args) {
        collectOfNothing();
        everyRegisterKeeps();
        theRestMovesDownInOrder();
        linksKeepWhatTheyReferTo();
        ringsGo();
        ringsStay();
        deepChainStays();
        weakKeepsNothing();
        weakFollowsTheMove();
        weakInLinksStays();
        weakThatGoesTakesNothing();
        numbersAreNoReferences();
        countTells();
        countOfFew();
        countOfMany();
        countOfCollections();
        CHECKS.end();
    }

    private static void collectOfNothing() {
        HeapPress heap = new HeapPress();
        CHECKS.due("10: nothing", heap.collect(), 0);
        CHECKS.due("10: nothing again", heap.collect(), 0);
        CHECKS.due("12: collected", heap.count(2), 2);
        heap.make(0, true, 40);
        heap.drop(0);
        CHECKS.due("10: all", heap.collect(), 1);
        CHECKS.due("10: no cells", heap.count(0), 0);
        CHECKS.due("10: no objects", heap.count(1), 0);
        CHECKS.due("10: first place again", heap.make(3, false, 1), 0);
    }

    private static void everyRegisterKeeps() {
        HeapPress heap = new HeapPress();
        for (int r = 0; r < 16; r++) {
            heap.make(r, true, 1);
            heap.make(r, false, 1);
        }
        CHECKS.due("10: what no register has", heap.collect(), 16);
        for (int r = 0; r < 16; r++) {
            CHECKS.dueRegister("10: kept", heap, r, "2 " + 2 * r + " 1");
        }
    }

    private static void theRestMovesDownInOrder() {
        HeapPress heap = new HeapPress();
        for (int r = 0; r < 10; r++) {
            heap.make(15 - r, false, r + 1);
            for (int i = 0; i <= r; i++) {
                heap.put(15 - r, i, 100 * r + i);
            }
        }
        for (int r = 0; r < 10; r += 3) {
            heap.drop(15 - r);
        }
        CHECKS.due("10: went", heap.collect(), 4);
        int place = 0;
        for (int r = 0; r < 10; r++) {
            boolean stays = r % 3 != 0;
            CHECKS.dueRegister("10: moved", heap, 15 - r, stays ? "2 " + place + " " + (r + 1) : NULL);
            for (int i = 0; stays && i <= r; i++) {
                CHECKS.due("10: moved number", heap.get(15 - r, i), 100 * r + i);
            }
            place += stays ? r + 2 : 0;
        }
        CHECKS.due("10: cells", heap.count(0), place);
        CHECKS.due("10: objects", heap.count(1), 6);
    }

    private static void linksKeepWhatTheyReferTo() {
        HeapPress heap = new HeapPress();
        heap.make(9, true, 5);
        heap.make(1, false, 1);
        heap.put(1, 0, 11);
        heap.make(2, true, 2);
        heap.link(2, 1, 1);
        heap.make(0, true, 3);
        heap.link(0, 2, 2);
        heap.link(0, 0, 1);
        heap.drop(9);
        heap.drop(1);
        heap.drop(2);
        CHECKS.due("10: only the first went", heap.collect(), 1);
        heap.follow(3, 0, 2);
        CHECKS.dueRegister("10: kept by LINKS", heap, 3, "1 2 2");
        heap.follow(4, 3, 1);
        CHECKS.dueRegister("10: kept through LINKS", heap, 4, "2 0 1");
        CHECKS.due("10: its number", heap.get(4, 0), 11);
        heap.follow(4, 0, 1);
        CHECKS.dueRegister("10: null stays null", heap, 4, NULL);
        heap.drop(3);
        heap.drop(0);
        CHECKS.due("10: all went", heap.collect(), 3);
    }

    private static void ringsGo() {
        HeapPress heap = ring();
        heap.drop(0);
        CHECKS.due("10: a ring goes", heap.collect(), 3);
        CHECKS.due("10: nothing left", heap.count(0), 0);
    }

    private static void ringsStay() {
        HeapPress heap = ring();
        CHECKS.due("10: a ring stays", heap.collect(), 0);
        for (int k = 1; k < 7; k++) {
            heap.follow(0, 0, 0);
            CHECKS.due("10: round the ring", heap.state(0, 1), k % 3 * 2);
        }
    }

    /** Three that refer round to each other; register 0 has the first of them. */
    private static HeapPress ring() {
        HeapPress heap = new HeapPress();
        heap.make(0, true, 1);
        heap.make(1, true, 1);
        heap.make(2, true, 1);
        heap.link(0, 0, 1);
        heap.link(1, 0, 2);
        heap.link(2, 0, 0);
        heap.drop(1);
        heap.drop(2);
        return heap;
    }

    // 150 objects of two cells in one chain: every cell is taken.
    private static void deepChainStays() {
        HeapPress heap = new HeapPress();
        heap.make(0, true, 1);
        for (int k = 1; k < 149; k++) {
            heap.make(1, true, 1);
            heap.link(1, 0, 0);
            heap.copy(0, 1);
        }
        heap.make(1, true, 1);
        heap.link(1, 0, 0);
        heap.drop(0);
        CHECKS.due("10: all cells", heap.count(0), 300);
        CHECKS.due("10: a chain stays", heap.collect(), 0);
        CHECKS.due("10: its objects", heap.count(1), 150);
        heap.follow(1, 1, 0);
        CHECKS.due("10: its head goes", heap.collect(), 1);
        CHECKS.dueRegister("10: its second", heap, 1, "1 296 1");
        heap.drop(1);
        CHECKS.due("10: a chain goes", heap.collect(), 149);
    }

    private static void weakKeepsNothing() {
        HeapPress heap = new HeapPress();
        heap.make(0, true, 1);
        heap.make(1, false, 1);
        heap.link(0, 0, 1);
        heap.weak(2, 0);
        heap.weak(3, 1);
        heap.weak(4, 3);
        heap.drop(0);
        heap.drop(1);
        heap.drop(3);
        CHECKS.due("10: what just WEAK ones lead to", heap.collect(), 3);
        CHECKS.dueRegister("10: WEAK stays", heap, 2, "3 0 1");
        CHECKS.dueRegister("10: WEAK of WEAK stays", heap, 4, "3 2 1");
        heap.follow(5, 2, 0);
        CHECKS.dueRegister("10: WEAK is null", heap, 5, NULL);
        heap.follow(5, 4, 0);
        CHECKS.dueRegister("10: WEAK of WEAK is null", heap, 5, NULL);
        CHECKS.due("10: null WEAK stays", heap.collect(), 0);
        heap.make(6, false, 1);
        heap.follow(5, 2, 0);
        CHECKS.dueRegister("10: WEAK stays null", heap, 5, NULL);
    }

    private static void weakFollowsTheMove() {
        HeapPress heap = new HeapPress();
        heap.make(0, true, 9);
        heap.make(1, false, 1);
        heap.put(1, 0, 42);
        heap.weak(2, 1);
        heap.make(3, true, 1);
        heap.link(3, 0, 1);
        heap.drop(0);
        heap.drop(1);
        CHECKS.due("10: went", heap.collect(), 1);
        heap.follow(4, 2, 0);
        CHECKS.dueRegister("10: WEAK has the new place", heap, 4, "2 0 1");
        CHECKS.due("10: WEAK has the same object", heap.get(4, 0), 42);
    }

    private static void weakInLinksStays() {
        HeapPress heap = new HeapPress();
        heap.make(0, true, 1);
        heap.make(1, false, 0);
        heap.weak(2, 1);
        heap.link(0, 0, 2);
        heap.drop(1);
        heap.drop(2);
        CHECKS.due("10: its object went", heap.collect(), 1);
        heap.follow(3, 0, 0);
        CHECKS.dueRegister("10: WEAK in LINKS stays", heap, 3, "3 2 1");
        heap.follow(3, 3, 0);
        CHECKS.dueRegister("10: WEAK in LINKS is null", heap, 3, NULL);
    }

    private static void weakThatGoesTakesNothing() {
        HeapPress heap = new HeapPress();
        heap.make(0, false, 2);
        heap.weak(1, 0);
        heap.drop(1);
        CHECKS.due("10: just the WEAK went", heap.collect(), 1);
        CHECKS.dueRegister("10: its object stays", heap, 0, "2 0 2");
    }

    private static void numbersAreNoReferences() {
        HeapPress heap = new HeapPress();
        heap.make(0, true, 1);
        heap.make(1, false, 3);
        heap.make(2, false, 1);
        heap.put(1, 0, 6);
        heap.put(1, 1, -1);
        heap.put(1, 2, 0);
        heap.drop(0);
        heap.drop(2);
        CHECKS.due("10: numbers lead nowhere", heap.collect(), 2);
        CHECKS.due("10: number stays", heap.get(1, 0), 6);
        CHECKS.due("10: number stays", heap.get(1, 1), -1);
        CHECKS.due("10: number stays", heap.get(1, 2), 0);
    }

    private static void countTells() {
        HeapPress heap = new HeapPress();
        heap.make(0, true, 0);
        heap.make(0, false, 5);
        heap.weak(0, 0);
        CHECKS.due("12: cells, of those not reached too", heap.count(0), 9);
        CHECKS.due("12: objects, those not reached too", heap.count(1), 3);
        CHECKS.due("12: not collected", heap.count(2), 0);
        heap.collect();
        CHECKS.due("12: cells", heap.count(0), 2);
        CHECKS.due("12: objects", heap.count(1), 1);
        CHECKS.due("12: collected", heap.count(2), 1);
        for (int x : Checks.outside(3)) {
            CHECKS.due("12: count(" + x + ")", heap.count(x), -1);
        }
    }

    private static void countOfFew() {
        HeapPress heap = new HeapPress();
        CHECKS.due("12: no cells", heap.count(0), 0);
        CHECKS.due("12: no objects", heap.count(1), 0);
        CHECKS.due("12: never collected", heap.count(2), 0);
        heap.make(0, false, 0);
        CHECKS.due("12: one cell", heap.count(0), 1);
        CHECKS.due("12: one object", heap.count(1), 1);
        heap.copy(1, 0);
        CHECKS.due("12: still one object", heap.count(1), 1);
    }

    private static void countOfMany() {
        HeapPress heap = new HeapPress();
        for (int k = 0; k < 300; k++) {
            heap.make(k % 16, true, 0);
        }
        CHECKS.due("12: all cells", heap.count(0), 300);
        CHECKS.due("12: as many objects", heap.count(1), 300);
        CHECKS.due("10: all but what the registers have", heap.collect(), 284);
        CHECKS.due("12: cells left", heap.count(0), 16);
        CHECKS.due("12: objects left", heap.count(1), 16);
    }

    // By collect, by make and weak without room, and by one that is full then; by no other call.
    private static void countOfCollections() {
        HeapPress heap = new HeapPress();
        for (int r = 0; r < 7; r++) {
            heap.make(r, true, 40);
        }
        heap.make(7, true, 12);
        CHECKS.due("12: make with room", heap.count(2), 0);
        heap.collect();
        CHECKS.due("12: collect", heap.count(2), 1);
        CHECKS.full("12: make", () -> heap.make(8, true, 0));
        CHECKS.due("12: full make", heap.count(2), 2);
        CHECKS.full("12: weak", () -> heap.weak(8, 0));
        CHECKS.due("12: full weak", heap.count(2), 3);
        heap.drop(7);
        heap.make(8, false, 12);
        CHECKS.due("12: make without room", heap.count(2), 4);
        heap.drop(8);
        heap.weak(9, 0);
        CHECKS.due("12: weak without room", heap.count(2), 5);
        heap.weak(9, 0);
        CHECKS.due("12: weak with room", heap.count(2), 5);
    }
}
