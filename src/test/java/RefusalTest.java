/**
 * "Bad", "Missing" and FULL, in each call that can refuse, and "A refused call changes nothing, but that it
 * may have COLLECTED": afterwards registers, counts and the contents of an object of each kind are as in a
 * twin that had no such call. The contents of what just fills the heap would take more than 512 calls.
 */
public final class RefusalTest {
    private static final int LINKS = 0;
    private static final int NUMBERS = 1;
    private static final int WEAK = 2;
    private static final int NO_LINKS = 3;
    private static final int NO_NUMBERS = 4;
    private static final int EMPTY = 5;
    private static final int SPARE = 15;
    private static final int BAD_REGISTER = 16;
    private static final Checks CHECKS = new Checks();

    private interface HeapCall {
        void run(HeapPress heap);
    }

    private RefusalTest() {
    }

    public static void main(String[] args) {
        numbersOutOfRangeAreBad();
        aRegisterOutOfRangeIsBad();
        anObjectOfAnotherKindIsBad();
        nullIsMissing();
        missingIsBehindBadRegisters();
        missingIsBeforeOtherBadNumbers();
        badAndMissingAreBeforeFull();
        fullIsRefused();
        whatNeedsNoObjectTakesNull();
        countAndCollectRefuseNothing();
        CHECKS.end();
    }

    /** An object of each kind, with contents; the first one there isn't reached. */
    private static HeapPress ofEachKind() {
        HeapPress heap = new HeapPress();
        heap.make(LINKS, true, 4);
        heap.make(LINKS, true, 2);
        heap.make(NUMBERS, false, 2);
        heap.weak(WEAK, NUMBERS);
        heap.make(NO_LINKS, true, 0);
        heap.make(NO_NUMBERS, false, 0);
        heap.link(LINKS, 0, NUMBERS);
        heap.link(LINKS, 1, LINKS);
        heap.put(NUMBERS, 0, Long.MIN_VALUE);
        heap.put(NUMBERS, 1, 17);
        return heap;
    }

    /** The same, and all cells are taken. */
    private static HeapPress ofEachKindWithoutRoom() {
        HeapPress heap = ofEachKind();
        for (int r = 6; heap.count(0) < 300; r++) {
            heap.make(r, true, Math.min(40, 299 - heap.count(0)));
        }
        return heap;
    }

    private static String registersAndContents(HeapPress heap) {
        StringBuilder text = new StringBuilder(Checks.look(heap));
        for (int r = 0; r < EMPTY; r++) {
            text.append(" | ").append(Checks.contents(heap, r, SPARE));
        }
        return text.toString();
    }

    private static void bad(String what, HeapCall call) {
        refused(what, Checks.BAD, call);
    }

    private static void missing(String what, HeapCall call) {
        refused(what, Checks.MISSING, call);
    }

    private static void refused(String what, String want, HeapCall call) {
        dueRefused(what, want, call, ofEachKind(), ofEachKind());
        dueRefused(what + ", without room", want, call, ofEachKindWithoutRoom(), ofEachKindWithoutRoom());
    }

    private static void dueRefused(String what, String want, HeapCall call, HeapPress heap, HeapPress twin) {
        CHECKS.due(what, Checks.outcome(() -> call.run(heap)), want);
        CHECKS.due(what + " leaves", registersAndContents(heap), registersAndContents(twin));
    }

    // "Bad": "a number out of range".
    private static void numbersOutOfRangeAreBad() {
        for (int x : Checks.outside(41)) {
            bad("make LINKS with " + x, heap -> heap.make(LINKS, true, x));
            bad("make NUMBERS with " + x, heap -> heap.make(NUMBERS, false, x));
        }
        for (int x : Checks.outside(2)) {
            bad("link " + x, heap -> heap.link(LINKS, x, NO_LINKS));
            bad("follow " + x, heap -> heap.follow(NUMBERS, LINKS, x));
            bad("put " + x, heap -> heap.put(NUMBERS, x, 3));
            bad("get " + x, heap -> heap.get(NUMBERS, x));
        }
        for (int x : Checks.outside(1)) {
            bad("follow WEAK " + x, heap -> heap.follow(NUMBERS, WEAK, x));
        }
        for (int x : Checks.outside(3)) {
            bad("state of LINKS " + x, heap -> heap.state(LINKS, x));
            bad("state of null " + x, heap -> heap.state(EMPTY, x));
        }
        bad("link of none", heap -> heap.link(NO_LINKS, 0, LINKS));
        bad("follow of none", heap -> heap.follow(LINKS, NO_LINKS, 0));
        bad("put of none", heap -> heap.put(NO_NUMBERS, 0, 3));
        bad("get of none", heap -> heap.get(NO_NUMBERS, 0));
    }

    // "Bad": "a number out of range", of a register.
    private static void aRegisterOutOfRangeIsBad() {
        for (int x : Checks.outside(16)) {
            bad("make in " + x, heap -> heap.make(x, true, 1));
            bad("weak in " + x, heap -> heap.weak(x, LINKS));
            bad("weak for " + x, heap -> heap.weak(LINKS, x));
            bad("copy to " + x, heap -> heap.copy(x, LINKS));
            bad("copy of " + x, heap -> heap.copy(LINKS, x));
            bad("drop " + x, heap -> heap.drop(x));
            bad("link in " + x, heap -> heap.link(x, 0, LINKS));
            bad("link to " + x, heap -> heap.link(LINKS, 0, x));
            bad("follow to " + x, heap -> heap.follow(x, LINKS, 0));
            bad("follow of " + x, heap -> heap.follow(NUMBERS, x, 0));
            bad("put in " + x, heap -> heap.put(x, 0, 3));
            bad("get of " + x, heap -> heap.get(x, 0));
            bad("state of " + x, heap -> heap.state(x, 0));
        }
    }

    // "Bad": "or an OBJECT of another kind".
    private static void anObjectOfAnotherKindIsBad() {
        bad("link in NUMBERS", heap -> heap.link(NUMBERS, 0, LINKS));
        bad("link in WEAK", heap -> heap.link(WEAK, 0, LINKS));
        bad("link in WEAK, to null", heap -> heap.link(WEAK, 0, EMPTY));
        bad("follow NUMBERS", heap -> heap.follow(LINKS, NUMBERS, 0));
        bad("put in LINKS", heap -> heap.put(LINKS, 0, 3));
        bad("put in WEAK", heap -> heap.put(WEAK, 0, 3));
        bad("get of LINKS", heap -> heap.get(LINKS, 0));
        bad("get of WEAK", heap -> heap.get(WEAK, 0));
    }

    // "Missing": "null, where there must be an OBJECT".
    private static void nullIsMissing() {
        missing("weak for null", heap -> heap.weak(LINKS, EMPTY));
        missing("weak for null in its register", heap -> heap.weak(EMPTY, EMPTY));
        missing("link in null", heap -> heap.link(EMPTY, 0, LINKS));
        missing("link in null, to null", heap -> heap.link(EMPTY, 0, EMPTY));
        missing("follow null", heap -> heap.follow(LINKS, EMPTY, 0));
        missing("follow null to its register", heap -> heap.follow(EMPTY, EMPTY, 0));
        missing("put in null", heap -> heap.put(EMPTY, 0, 3));
        missing("get of null", heap -> heap.get(EMPTY, 0));
    }

    // "Missing": "(behind bad numbers of REGISTERS)".
    private static void missingIsBehindBadRegisters() {
        bad("weak for null in 16", heap -> heap.weak(BAD_REGISTER, EMPTY));
        bad("weak for null in -1", heap -> heap.weak(-1, EMPTY));
        bad("link in null to 16", heap -> heap.link(EMPTY, 0, BAD_REGISTER));
        bad("link in null to -1", heap -> heap.link(EMPTY, 0, -1));
        bad("follow null to 16", heap -> heap.follow(BAD_REGISTER, EMPTY, 0));
        bad("follow null to -1", heap -> heap.follow(-1, EMPTY, 0));
    }

    // "Missing" is behind bad numbers of registers, and so before the other ones.
    private static void missingIsBeforeOtherBadNumbers() {
        for (int x : Checks.outside(40)) {
            missing("link in null at " + x, heap -> heap.link(EMPTY, x, LINKS));
            missing("follow null at " + x, heap -> heap.follow(LINKS, EMPTY, x));
            missing("put in null at " + x, heap -> heap.put(EMPTY, x, 3));
            missing("get of null at " + x, heap -> heap.get(EMPTY, x));
        }
    }

    // A call that is bad or missing makes nothing, so that it does not collect for it either.
    private static void badAndMissingAreBeforeFull() {
        HeapPress heap = ofEachKindWithoutRoom();
        CHECKS.bad("make in 16", () -> heap.make(BAD_REGISTER, true, 40));
        CHECKS.bad("make with 41", () -> heap.make(0, true, 41));
        CHECKS.bad("make with -1", () -> heap.make(0, true, -1));
        CHECKS.bad("weak in 16", () -> heap.weak(BAD_REGISTER, LINKS));
        CHECKS.bad("weak for 16", () -> heap.weak(LINKS, BAD_REGISTER));
        CHECKS.missing("weak for null", () -> heap.weak(LINKS, EMPTY));
        CHECKS.due("not collected", heap.count(2), 0);
        CHECKS.due("all cells are taken", heap.count(0), 300);
    }

    // "FULL is IllegalStateException", and it has just collected: the twin does so by itself.
    private static void fullIsRefused() {
        for (int n = 5; n <= 40; n += 5) {
            int most = n;
            dueFull("make LINKS in a new register with " + n, heap -> heap.make(EMPTY, true, most));
            dueFull("make NUMBERS in a new register with " + n, heap -> heap.make(EMPTY, false, most));
            dueFull("make in place of LINKS with " + n, heap -> heap.make(LINKS, true, most));
            dueFull("make in place of NUMBERS with " + n, heap -> heap.make(NUMBERS, false, most));
        }
        HeapPress heap = ofEachKindWithoutRoom();
        HeapPress twin = ofEachKindWithoutRoom();
        heap.make(14, false, 3);
        twin.make(14, false, 3);
        for (int r = 0; r < 3; r++) {
            int x = r;
            CHECKS.full("weak in " + r, () -> heap.weak(x, NUMBERS));
            twin.collect();
        }
        CHECKS.due("full weak leaves", registersAndContents(heap), registersAndContents(twin));
    }

    // Five cells are not reached, and none is left: one with five is a cell too large.
    private static void dueFull(String what, HeapCall call) {
        HeapPress twin = ofEachKindWithoutRoom();
        twin.collect();
        dueRefused(what, Checks.FULL, call, ofEachKindWithoutRoom(), twin);
    }

    // Where no object must be, null is taken: in copy, in drop, as what a link leads to, in state.
    private static void whatNeedsNoObjectTakesNull() {
        HeapPress heap = ofEachKind();
        CHECKS.done("drop of null", () -> heap.drop(EMPTY));
        CHECKS.done("copy of null to null", () -> heap.copy(EMPTY, EMPTY));
        CHECKS.done("link to null", () -> heap.link(LINKS, 0, EMPTY));
        CHECKS.due("reference to null", Checks.contents(heap, LINKS, SPARE), "0 -1 -1; 1 5 2; ");
        CHECKS.done("follow a null reference", () -> heap.follow(NUMBERS, LINKS, 0));
        CHECKS.dueRegister("null followed", heap, NUMBERS, "0 -1 -1");
        CHECKS.done("copy of null", () -> heap.copy(LINKS, EMPTY));
        CHECKS.dueRegister("null copied", heap, LINKS, "0 -1 -1");
    }

    // "count": "else -1", and collect has nothing to refuse.
    private static void countAndCollectRefuseNothing() {
        HeapPress empty = new HeapPress();
        HeapPress heap = ofEachKindWithoutRoom();
        for (int x : Checks.outside(3)) {
            CHECKS.due("count(" + x + ")", Checks.answer(() -> empty.count(x)), "-1");
            CHECKS.due("count(" + x + ") without room", Checks.answer(() -> heap.count(x)), "-1");
        }
        CHECKS.due("collect of nothing", Checks.answer(empty::collect), "0");
        CHECKS.due("collect without room", Checks.answer(heap::collect), "1");
    }
}
