/** What stands under "Terms", a test for each sentence, and the sentence before each test. */
public final class TermsTest {
    private static final String NULL = "0 -1 -1";
    private static final int SPARE = 15;
    private static final Checks CHECKS = new Checks();

    private TermsTest() {
    }

    public static void main(String[] args) {
        cellsAre300();
        linksAreNullAtFirst();
        numbersAre0AtFirst();
        weakIsToWhatItWasMadeFor();
        nIsFrom0To40();
        oneTakesACellAndNMore();
        weakTakesACellAndOneMore();
        placeIsTheFirstCell();
        registersAreNullAtFirst();
        registersAre0To15();
        whatARegisterRefersToIsReached();
        whatReachedLinksReferToIsReached();
        linksThatAreNotReachedLeadNowhere();
        chainsAreReachedUpAndDown();
        asManyAreReachedAsThereIsRoomFor();
        whatJustWeakOnesReferToIsNotReached();
        allThatAreNotReachedGo();
        weakOnesWhoseObjectWentBecomeNull();
        weakOnesWhoseObjectStaysKeepIt();
        theOthersMoveDownInOrder();
        makingIsBehindTheLast();
        makingWithCellsEnoughCollectsNot();
        makingWithoutCellsEnoughCollectsFirst();
        makingWithoutCellsEnoughStillIsFull();
        whatAWeakOneIsMadeForStays();
        fiveHundredAndTwelveCalls();
        CHECKS.end();
    }

    /** A heap with so many cells left, 41 at most, and the others taken by objects in registers 0 .. 7. */
    private static HeapPress leaving(int cells) {
        HeapPress heap = new HeapPress();
        for (int r = 0; r < 6; r++) {
            heap.make(r, r % 2 == 0, 40);
        }
        int rest = 300 - 6 * 41 - cells;
        int half = rest / 2;
        heap.make(6, true, half - 1);
        heap.make(7, false, rest - half - 1);
        return heap;
    }

    // "CELLS: 300."
    private static void cellsAre300() {
        HeapPress heap = leaving(1);
        CHECKS.due("the last cell", heap.make(8, false, 0), 299);
        CHECKS.due("all cells", heap.count(0), 300);
        CHECKS.full("a cell more", () -> heap.make(9, false, 0));
        CHECKS.due("all cells still", heap.count(0), 300);
    }

    // "LINKS (n references, null at first)"
    private static void linksAreNullAtFirst() {
        for (int n = 0; n <= 40; n++) {
            HeapPress heap = withOldContents();
            heap.make(1, true, n);
            CHECKS.due("LINKS of " + n, Checks.contents(heap, 1, SPARE), (NULL + "; ").repeat(n));
            int past = n;
            CHECKS.bad("LINKS of " + n + ", behind the last", () -> heap.follow(SPARE, 1, past));
            CHECKS.bad("LINKS of " + n + ", before the first", () -> heap.follow(SPARE, 1, -1));
        }
    }

    // "NUMBERS (n longs, 0 at first)"
    private static void numbersAre0AtFirst() {
        for (int n = 0; n <= 40; n++) {
            HeapPress heap = withOldContents();
            heap.make(1, false, n);
            CHECKS.due("NUMBERS of " + n, Checks.contents(heap, 1, SPARE), "0; ".repeat(n));
            int past = n;
            CHECKS.bad("NUMBERS of " + n + ", behind the last", () -> heap.get(1, past));
            CHECKS.bad("NUMBERS of " + n + ", before the first", () -> heap.get(1, -1));
        }
    }

    /** An empty heap whose first cells have been used. */
    private static HeapPress withOldContents() {
        HeapPress heap = new HeapPress();
        heap.make(0, false, 40);
        for (int i = 0; i < 40; i++) {
            heap.put(0, i, i % 2 == 0 ? 7 : 0);
        }
        heap.drop(0);
        heap.collect();
        return heap;
    }

    // "WEAK (one reference, to what it was made for)"
    private static void weakIsToWhatItWasMadeFor() {
        HeapPress heap = new HeapPress();
        heap.make(0, true, 2);
        heap.make(1, false, 2);
        heap.weak(2, 1);
        heap.weak(3, 2);
        heap.weak(4, 0);
        CHECKS.due("WEAK for NUMBERS", Checks.contents(heap, 2, SPARE), "2 3 2; ");
        CHECKS.due("WEAK for WEAK", Checks.contents(heap, 3, SPARE), "3 6 1; ");
        CHECKS.due("WEAK for LINKS", Checks.contents(heap, 4, SPARE), "1 0 2; ");
        heap.copy(1, 0);
        CHECKS.due("WEAK, its register set anew", Checks.contents(heap, 2, SPARE), "2 3 2; ");
        heap.drop(0);
        CHECKS.due("WEAK, its register dropped", Checks.contents(heap, 4, SPARE), "1 0 2; ");
        for (int x : Checks.outside(1)) {
            CHECKS.bad("WEAK has no reference " + x, () -> heap.follow(SPARE, 2, x));
        }
    }

    // "n: 0 .. 40."
    private static void nIsFrom0To40() {
        for (int n = 0; n <= 40; n++) {
            HeapPress heap = new HeapPress();
            heap.make(0, true, n);
            heap.make(1, false, n);
            CHECKS.dueRegister("n " + n, heap, 0, "1 0 " + n);
            CHECKS.dueRegister("n " + n, heap, 1, "2 " + (n + 1) + " " + n);
        }
        HeapPress heap = new HeapPress();
        for (int x : Checks.outside(41)) {
            CHECKS.bad("LINKS with " + x, () -> heap.make(0, true, x));
            CHECKS.bad("NUMBERS with " + x, () -> heap.make(0, false, x));
        }
        CHECKS.due("none was made", heap.count(1), 0);
    }

    // "One takes 1 CELL and n .. more."
    private static void oneTakesACellAndNMore() {
        for (int n = 0; n <= 40; n++) {
            HeapPress heap = new HeapPress();
            heap.make(0, true, n);
            CHECKS.due("cells of LINKS with " + n, heap.count(0), n + 1);
            heap.make(0, false, n);
            CHECKS.due("cells of NUMBERS with " + n, heap.count(0), 2 * (n + 1));
        }
    }

    // "One takes 1 CELL and .. (WEAK: 1) more."
    private static void weakTakesACellAndOneMore() {
        HeapPress heap = new HeapPress();
        heap.make(0, false, 0);
        for (int k = 1; k <= 20; k++) {
            CHECKS.due("place of WEAK " + k, heap.weak(1, 0), 2 * k - 1);
            CHECKS.due("cells with WEAK " + k, heap.count(0), 2 * k + 1);
        }
    }

    // "Its PLACE: its first CELL, from 0."
    private static void placeIsTheFirstCell() {
        HeapPress heap = new HeapPress();
        CHECKS.due("first", heap.make(0, true, 2), 0);
        CHECKS.due("second", heap.make(1, false, 0), 3);
        CHECKS.due("third", heap.weak(2, 1), 4);
        CHECKS.due("fourth", heap.make(3, true, 0), 6);
        CHECKS.due("fifth", heap.make(4, true, 40), 7);
        int[] places = {0, 3, 4, 6, 7};
        for (int r = 0; r < places.length; r++) {
            CHECKS.due("place of register " + r, heap.state(r, 1), places[r]);
        }
        HeapPress full = leaving(1);
        full.make(8, true, 0);
        CHECKS.due("the last place", full.state(8, 1), 299);
    }

    // "REGISTERS .. null at first."
    private static void registersAreNullAtFirst() {
        HeapPress heap = new HeapPress();
        for (int r = 0; r < 16; r++) {
            CHECKS.dueRegister("new", heap, r, NULL);
        }
        heap.make(3, true, 1);
        for (int r = 0; r < 16; r++) {
            CHECKS.due("one is set", heap.state(r, 0), r == 3 ? 1 : 0);
        }
    }

    private interface RegisterCall {
        void run(HeapPress heap, int x);
    }

    // "REGISTERS 0 .. 15": every register of every call.
    private static void registersAre0To15() {
        dueRegisters("make(x, ..)", true, (heap, x) -> heap.make(x, true, 1));
        dueRegisters("weak(x, ..)", true, (heap, x) -> heap.weak(x, 3));
        dueRegisters("weak(.., x)", true, (heap, x) -> heap.weak(3, x));
        dueRegisters("copy(x, ..)", true, (heap, x) -> heap.copy(x, 3));
        dueRegisters("copy(.., x)", true, (heap, x) -> heap.copy(3, x));
        dueRegisters("drop(x)", true, HeapPress::drop);
        dueRegisters("link(x, ..)", true, (heap, x) -> heap.link(x, 0, 3));
        dueRegisters("link(.., x)", true, (heap, x) -> heap.link(3, 0, x));
        dueRegisters("follow(x, ..)", true, (heap, x) -> heap.follow(x, 3, 0));
        dueRegisters("follow(.., x, ..)", true, (heap, x) -> heap.follow(3, x, 0));
        dueRegisters("put(x, ..)", false, (heap, x) -> heap.put(x, 0, 4));
        dueRegisters("get(x, ..)", false, (heap, x) -> heap.get(x, 0));
        dueRegisters("state(x, ..)", true, (heap, x) -> heap.state(x, 0));
    }

    private static void dueRegisters(String what, boolean links, RegisterCall call) {
        for (int x = 0; x < 16; x++) {
            int r = x;
            HeapPress heap = inEachRegister(links);
            CHECKS.done(what + ", x " + x, () -> call.run(heap, r));
        }
        for (int x : Checks.outside(16)) {
            HeapPress heap = inEachRegister(links);
            CHECKS.bad(what + ", x " + x, () -> call.run(heap, x));
        }
    }

    /** In each register an object of its own, with one content. */
    private static HeapPress inEachRegister(boolean links) {
        HeapPress heap = new HeapPress();
        for (int r = 0; r < 16; r++) {
            heap.make(r, links, 1);
        }
        return heap;
    }

    // "REACHED: what a REGISTER refers to": each register by itself.
    private static void whatARegisterRefersToIsReached() {
        for (int r = 0; r < 16; r++) {
            HeapPress heap = new HeapPress();
            heap.make(r, true, 1);
            heap.make(r, false, 2);
            heap.put(r, 1, 70 + r);
            CHECKS.due("just what register " + r + " had before goes", heap.collect(), 1);
            CHECKS.dueRegister("stays", heap, r, "2 0 2");
            CHECKS.due("stays", heap.get(r, 1), 70 + r);
            heap.drop(r);
            CHECKS.due("register " + r + " dropped", heap.collect(), 1);
        }
    }

    // "REACHED: .. and what a LINKS that's REACHED does": each reference by itself.
    private static void whatReachedLinksReferToIsReached() {
        for (int i = 0; i < 40; i++) {
            HeapPress heap = new HeapPress();
            heap.make(0, true, 2);
            heap.make(0, false, 1);
            heap.make(1, true, 40);
            heap.link(1, i, 0);
            heap.put(0, 0, 70 + i);
            heap.drop(0);
            CHECKS.due("reference " + i + " keeps", heap.collect(), 1);
            heap.follow(2, 1, i);
            CHECKS.dueRegister("reference " + i, heap, 2, "2 0 1");
            CHECKS.due("reference " + i, heap.get(2, 0), 70 + i);
            heap.drop(2);
            heap.link(1, i, 0);
            CHECKS.due("reference " + i + " made null", heap.collect(), 1);
        }
    }

    // "REACHED: .. a LINKS that's REACHED": one that isn't keeps nothing.
    private static void linksThatAreNotReachedLeadNowhere() {
        HeapPress heap = new HeapPress();
        heap.make(0, false, 1);
        heap.make(1, true, 1);
        heap.link(1, 0, 0);
        heap.make(2, true, 2);
        heap.link(2, 0, 1);
        heap.link(2, 1, 0);
        heap.drop(0);
        heap.drop(1);
        heap.drop(2);
        CHECKS.due("all of the chain", heap.collect(), 3);
    }

    // "REACHED": through so many LINKS as there are cells for.
    private static void chainsAreReachedUpAndDown() {
        HeapPress up = chain(true);
        CHECKS.due("the next is above", up.collect(), 0);
        CHECKS.due("all its objects", up.count(1), 150);
        up.follow(0, 0, 0);
        CHECKS.due("the head goes", up.collect(), 1);
        CHECKS.dueRegister("the second comes down", up, 0, "1 0 1");
        CHECKS.due("its next", Checks.contents(up, 0, SPARE), "1 2 1; ");

        HeapPress down = chain(false);
        CHECKS.due("the next is below", down.collect(), 0);
        CHECKS.due("all its objects", down.count(1), 150);
        down.follow(0, 0, 0);
        CHECKS.due("the head goes", down.collect(), 1);
        CHECKS.dueRegister("the second stays", down, 0, "1 296 1");
        CHECKS.due("its next", Checks.contents(down, 0, SPARE), "1 294 1; ");
    }

    /** 150 LINKS that take all cells, each leading to the next; register 0 alone has the head. */
    private static HeapPress chain(boolean up) {
        HeapPress heap = new HeapPress();
        heap.make(0, true, 1);
        heap.copy(1, 0);
        for (int k = 1; k < 150; k++) {
            heap.make(2, true, 1);
            heap.link(up ? 1 : 2, 0, up ? 2 : 1);
            heap.copy(1, 2);
        }
        heap.copy(0, up ? 0 : 1);
        heap.drop(1);
        heap.drop(2);
        return heap;
    }

    // "REACHED": so many as registers and cells allow, since each takes a cell and all but 16 a reference.
    private static void asManyAreReachedAsThereIsRoomFor() {
        HeapPress heap = new HeapPress();
        heap.make(1, false, 0);
        for (int k = 0; k < 142; k++) {
            heap.make(0, true, 1);
            heap.link(0, 0, 1);
            heap.copy(1, 0);
        }
        for (int r = 1; r < 16; r++) {
            heap.make(r, false, 0);
        }
        CHECKS.due("all cells", heap.count(0), 300);
        CHECKS.due("all are reached", heap.collect(), 0);
        CHECKS.due("as many objects", heap.count(1), 158);
        heap.copy(0, 1);
        CHECKS.due("the chain goes", heap.collect(), 143);
        CHECKS.due("the others stay", heap.count(1), 15);
    }

    // "(What just WEAK ones refer to isn't.)"
    private static void whatJustWeakOnesReferToIsNotReached() {
        HeapPress heap = new HeapPress();
        heap.make(0, true, 1);
        heap.make(1, false, 1);
        heap.link(0, 0, 1);
        heap.weak(2, 0);
        heap.weak(3, 0);
        heap.make(4, true, 1);
        heap.weak(5, 1);
        heap.link(4, 0, 5);
        heap.drop(0);
        heap.drop(1);
        heap.drop(5);
        CHECKS.due("of two WEAK, and of one in LINKS", heap.collect(), 2);
        CHECKS.due("the WEAK ones and the LINKS", heap.count(1), 4);

        HeapPress chain = new HeapPress();
        chain.make(0, false, 0);
        chain.weak(1, 0);
        chain.weak(2, 1);
        chain.weak(3, 2);
        chain.drop(0);
        chain.drop(1);
        chain.drop(2);
        CHECKS.due("of WEAK for WEAK", chain.collect(), 3);
        CHECKS.dueRegister("the last WEAK", chain, 3, "3 0 1");
    }

    // "COLLECTING: all OBJECTS not REACHED go"
    private static void allThatAreNotReachedGo() {
        HeapPress heap = new HeapPress();
        heap.make(0, false, 3);
        heap.make(1, true, 2);
        heap.link(1, 0, 1);
        heap.link(1, 1, 0);
        heap.make(2, true, 1);
        heap.make(3, true, 1);
        heap.link(2, 0, 3);
        heap.link(3, 0, 2);
        heap.weak(4, 0);
        for (int r = 1; r <= 4; r++) {
            heap.drop(r);
        }
        CHECKS.due("one that leads to itself, a ring of two, a WEAK", heap.collect(), 4);
        CHECKS.due("what they led to stays", heap.count(1), 1);
        CHECKS.due("its cells", heap.count(0), 4);
        CHECKS.due("none went the second time", heap.collect(), 0);
    }

    // "WEAK ones that are left and refer to one that went become null"
    private static void weakOnesWhoseObjectWentBecomeNull() {
        HeapPress heap = new HeapPress();
        heap.make(0, false, 2);
        heap.weak(1, 0);
        heap.weak(2, 0);
        heap.make(3, true, 1);
        heap.weak(4, 1);
        heap.link(3, 0, 2);
        heap.drop(0);
        heap.drop(2);
        CHECKS.due("went", heap.collect(), 1);
        CHECKS.due("WEAK in a register", Checks.contents(heap, 1, SPARE), NULL + "; ");
        CHECKS.due("WEAK whose WEAK stays", Checks.contents(heap, 4, SPARE), "3 0 1; ");
        heap.follow(5, 3, 0);
        CHECKS.due("WEAK in LINKS", Checks.contents(heap, 5, SPARE), NULL + "; ");
        heap.make(0, false, 2);
        heap.collect();
        CHECKS.due("null for good", Checks.contents(heap, 1, SPARE), NULL + "; ");
    }

    // "WEAK ones that are left and refer to one that went": not the other ones.
    private static void weakOnesWhoseObjectStaysKeepIt() {
        HeapPress heap = new HeapPress();
        heap.make(9, true, 7);
        heap.make(0, false, 1);
        heap.put(0, 0, 5);
        heap.make(1, true, 1);
        heap.link(1, 0, 0);
        heap.weak(2, 0);
        heap.weak(3, 2);
        heap.drop(9);
        heap.drop(0);
        CHECKS.due("went", heap.collect(), 1);
        CHECKS.due("WEAK", Checks.contents(heap, 2, SPARE), "2 0 1; ");
        CHECKS.due("WEAK for WEAK", Checks.contents(heap, 3, SPARE), "3 4 1; ");
        heap.follow(4, 2, 0);
        CHECKS.due("the same object", heap.get(4, 0), 5);
    }

    // "the others move down, in the order of their PLACES, with no CELL between": every choice of eight.
    private static void theOthersMoveDownInOrder() {
        for (int choice = 0; choice < 256; choice++) {
            HeapPress heap = new HeapPress();
            for (int k = 0; k < 8; k++) {
                // Their registers are in another order than their places.
                heap.make(5 * k % 8, k % 3 == 1, k == 5 ? 0 : 7 - k);
                markLast(heap, 5 * k % 8, k);
            }
            for (int k = 0; k < 8; k++) {
                if ((choice >> k & 1) == 0) {
                    heap.drop(5 * k % 8);
                }
            }
            CHECKS.due("choice " + choice, heap.collect(), 8 - Integer.bitCount(choice));
            dueMoved(heap, choice);
        }
    }

    // LINKS lead to themselves by their last reference, NUMBERS have k there.
    private static void markLast(HeapPress heap, int r, int k) {
        int n = heap.state(r, 2);
        if (n > 0 && heap.state(r, 0) == 1) {
            heap.link(r, n - 1, r);
        } else if (n > 0) {
            heap.put(r, n - 1, k);
        }
    }

    private static void dueMoved(HeapPress heap, int choice) {
        int place = 0;
        for (int k = 0; k < 8; k++) {
            int r = 5 * k % 8;
            int n = k == 5 ? 0 : 7 - k;
            boolean stays = (choice >> k & 1) == 1;
            String itself = (k % 3 == 1 ? 1 : 2) + " " + place + " " + n;
            CHECKS.dueRegister("choice " + choice, heap, r, stays ? itself : NULL);
            if (stays && n > 0) {
                String before = k % 3 == 1 ? NULL + "; " : "0; ";
                String last = k % 3 == 1 ? itself : "" + k;
                CHECKS.due("choice " + choice + ", contents of " + k, Checks.contents(heap, r, SPARE),
                        before.repeat(n - 1) + last + "; ");
            }
            place += stays ? n + 1 : 0;
        }
        CHECKS.due("choice " + choice + ", cells", heap.count(0), place);
        CHECKS.due("choice " + choice + ", objects", heap.count(1), Integer.bitCount(choice));
    }

    // "MAKING: behind the last OBJECT": one that isn't REACHED is still the last.
    private static void makingIsBehindTheLast() {
        HeapPress heap = new HeapPress();
        heap.make(0, true, 3);
        heap.make(1, true, 5);
        heap.drop(0);
        heap.drop(1);
        CHECKS.due("behind one not reached", heap.make(2, false, 1), 10);
        heap.drop(2);
        heap.make(3, false, 0);
        CHECKS.due("a WEAK behind", heap.weak(4, 3), 13);
        heap.collect();
        CHECKS.due("behind what was pressed", heap.make(5, true, 0), 3);
        heap.drop(3);
        heap.drop(4);
        heap.drop(5);
        heap.collect();
        CHECKS.due("none is there", heap.make(6, true, 0), 0);
    }

    // "if there aren't CELLS enough": with just enough it doesn't collect.
    private static void makingWithCellsEnoughCollectsNot() {
        for (int n = 0; n <= 40; n++) {
            HeapPress heap = leaving(n + 1);
            heap.drop(0);
            CHECKS.due("just enough for " + n, heap.make(9, n % 2 == 0, n), 299 - n);
            CHECKS.due("just enough for " + n + ": cells", heap.count(0), 300);
            CHECKS.due("just enough for " + n + ": collected", heap.count(2), 0);
        }
        HeapPress heap = leaving(2);
        heap.drop(0);
        CHECKS.due("just enough for WEAK", heap.weak(9, 1), 298);
        CHECKS.due("just enough for WEAK: collected", heap.count(2), 0);
    }

    // "first it COLLECTS": with a cell too few, and just enough then.
    private static void makingWithoutCellsEnoughCollectsFirst() {
        for (int n = 0; n <= 40; n++) {
            HeapPress heap = oneCellNotReached(n);
            CHECKS.due("a cell too few for " + n, heap.make(9, n % 2 == 0, n), 299 - n);
            CHECKS.due("a cell too few for " + n + ": cells", heap.count(0), 300);
            CHECKS.due("a cell too few for " + n + ": collected", heap.count(2), 1);
            CHECKS.dueRegister("moved", heap, 1, "2 41 40");
            CHECKS.dueRegister("new", heap, 9, (n % 2 == 0 ? 1 : 2) + " " + (299 - n) + " " + n);
        }
        HeapPress heap = oneCellNotReached(1);
        CHECKS.due("a cell too few for WEAK", heap.weak(9, 1), 298);
        CHECKS.due("a cell too few for WEAK: cells", heap.count(0), 300);
        CHECKS.due("a cell too few for WEAK: collected", heap.count(2), 1);
        CHECKS.due("its object", Checks.contents(heap, 9, SPARE), "2 41 40; ");
    }

    /** So many cells are left, and the very first one is taken by one that isn't reached. */
    private static HeapPress oneCellNotReached(int left) {
        HeapPress heap = new HeapPress();
        heap.make(0, true, 0);
        int rest = 300 - 1 - left;
        for (int r = 0; rest > 0; r++) {
            int size = Math.min(41, rest);
            heap.make(r, r % 2 == 0, size - 1);
            rest -= size;
        }
        return heap;
    }

    // "if there aren't still: FULL."
    private static void makingWithoutCellsEnoughStillIsFull() {
        for (int n = 0; n <= 40; n++) {
            int cells = n;
            HeapPress heap = leaving(cells);
            CHECKS.full("a cell too few for LINKS with " + n, () -> heap.make(9, true, cells));
            CHECKS.full("a cell too few for NUMBERS with " + n, () -> heap.make(9, false, cells));
            CHECKS.due("collected for each", heap.count(2), 2);
            CHECKS.due("as many cells", heap.count(0), 300 - n);
            if (n > 0) {
                CHECKS.due("one less fits", heap.make(9, true, n - 1), 300 - n);
            }
        }
        for (int cells = 0; cells < 2; cells++) {
            HeapPress heap = leaving(cells);
            CHECKS.full("WEAK, with cells " + cells, () -> heap.weak(9, 0));
            CHECKS.due("collected for it", heap.count(2), 1);
        }
        HeapPress heap = oneCellNotReached(0);
        CHECKS.full("WEAK, with one cell after collecting", () -> heap.weak(9, 1));
        CHECKS.due("collected for it", heap.count(0), 299);
    }

    // "(what a WEAK one is made for is in a REGISTER, so it stays)"
    private static void whatAWeakOneIsMadeForStays() {
        HeapPress heap = oneCellNotReached(0);
        heap.drop(0);
        heap.put(5, 39, 11);
        CHECKS.due("in its own register", heap.weak(5, 5), 258);
        CHECKS.due("its object moved", Checks.contents(heap, 5, SPARE), "2 164 40; ");
        heap.follow(6, 5, 0);
        CHECKS.due("the same object", heap.get(6, 39), 11);

        HeapPress other = oneCellNotReached(0);
        other.drop(0);
        other.put(5, 39, 12);
        CHECKS.due("in another register", other.weak(8, 5), 258);
        CHECKS.due("its object moved", Checks.contents(other, 8, SPARE), "2 164 40; ");
        other.follow(6, 8, 0);
        CHECKS.due("the same object", other.get(6, 39), 12);
    }

    // "An object is used for at most 512 calls after it has been made": all of them hold.
    private static void fiveHundredAndTwelveCalls() {
        HeapPress heap = new HeapPress();
        for (int k = 0; k < 511; k++) {
            // Seven fit first; afterwards the register's old one stays while it collects, so six do.
            int due = k < 7 ? 41 * k : 41 * (1 + (k - 7) % 6);
            CHECKS.due("make " + k, heap.make(0, k % 2 == 0, 40), due);
        }
        CHECKS.due("collected", heap.count(2), 84);

        HeapPress idle = new HeapPress();
        for (int k = 0; k < 511; k++) {
            CHECKS.due("collect " + k, idle.collect(), 0);
        }
        CHECKS.due("collected", idle.count(2), 511);
    }
}
