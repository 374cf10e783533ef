/** What the tests share: calls are named by what they throw, and wrong answers are counted and printed. */
final class Checks {
    static final String BAD = "throws.IllegalArgumentException";
    static final String MISSING = "throws.NoSuchElementException";
    static final String FULL = "throws.IllegalStateException";
    static final String DONE = "done";

    private int checks = 0;
    private int wrong = 0;

    interface Call {
        void run();
    }

    interface Asking {
        long answer();
    }

    void due(String what, long got, long want) {
        due(what, Long.toString(got), Long.toString(want));
    }

    void due(String what, String got, String want) {
        checks++;
        if (!got.equals(want)) {
            wrong++;
            System.out.println(what + " answered " + got + ", due is " + want);
        }
    }

    void done(String what, Call call) {
        due(what, outcome(call), DONE);
    }

    void bad(String what, Call call) {
        due(what, outcome(call), BAD);
    }

    void missing(String what, Call call) {
        due(what, outcome(call), MISSING);
    }

    void full(String what, Call call) {
        due(what, outcome(call), FULL);
    }

    static String outcome(Call call) {
        return outcome(() -> {
            call.run();
            return 0;
        }, false);
    }

    static String answer(Asking asking) {
        return outcome(asking, true);
    }

    // The classes are compared exactly: one that extends a promised exception is not the promised one.
    private static String outcome(Asking asking, boolean telling) {
        try {
            long answer = asking.answer();
            return telling ? Long.toString(answer) : DONE;
        } catch (RuntimeException e) {
            return "throws." + e.getClass().getSimpleName();
        }
    }

    /** Kind, place and n of a register in one text. */
    static String register(HeapPress heap, int r) {
        return heap.state(r, 0) + " " + heap.state(r, 1) + " " + heap.state(r, 2);
    }

    void dueRegister(String what, HeapPress heap, int r, String want) {
        due(what + ": register " + r, register(heap, r), want);
    }

    /** All that can be seen without changing anything: 51 calls. */
    static String look(HeapPress heap) {
        StringBuilder text = new StringBuilder();
        for (int r = 0; r < 16; r++) {
            text.append(register(heap, r)).append("; ");
        }
        return text.append(heap.count(0)).append(' ').append(heap.count(1)).append(' ')
                .append(heap.count(2)).toString();
    }

    void dueSame(String what, HeapPress heap, String before) {
        due(what + " leaves", look(heap), before);
    }

    void end() {
        System.out.println(checks + " checks, " + wrong + " wrong");
        if (wrong != 0 || checks == 0) {
            System.exit(1);
        }
    }

    /** What an object in a register holds, a text for each content; register spare is written over. */
    static String contents(HeapPress heap, int r, int spare) {
        StringBuilder text = new StringBuilder();
        int kind = heap.state(r, 0);
        int n = heap.state(r, 2);
        for (int i = 0; i < n; i++) {
            if (kind == 2) {
                text.append(heap.get(r, i));
            } else {
                heap.follow(spare, r, i);
                text.append(register(heap, spare));
            }
            text.append("; ");
        }
        return text.toString();
    }

    /** Numbers that a range from 0 to below bound, at most 256, does not hold; some would if cut to a byte or short. */
    static int[] outside(int bound) {
        return new int[] {-1, -2, -bound, bound, bound + 1, 256, 1 << 16, 1 << 30,
            Integer.MAX_VALUE, Integer.MAX_VALUE - 1, Integer.MIN_VALUE, Integer.MIN_VALUE + 1};
    }
}
