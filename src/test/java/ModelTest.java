import java.util.ArrayDeque;
import java.util.ArrayList;
import java.util.Collections;
import java.util.IdentityHashMap;
import java.util.List;
import java.util.NoSuchElementException;
import java.util.Set;

/**
 * All promises at once: many runs of calls, each answered by HeapPress and by a model that holds Java
 * objects in a list and reckons places from it.
 */
public final class ModelTest {
    private static final int RUNS = 4000;
    // With the 51 calls of the look at the end a run stays under the document's 512.
    private static final int MOST_CALLS = 460;
    private static final Checks CHECKS = new Checks();
    private static long seed = 20261115;

    private ModelTest() {
    }

    public static void main(String[] args) {
        for (int run = 0; run < RUNS; run++) {
            oneRun(run);
        }
        CHECKS.end();
    }

    private static void oneRun(int run) {
        HeapPress heap = new HeapPress();
        Model model = new Model();
        int calls = 1 + below(MOST_CALLS);
        // Few registers make much garbage, many fill the heap.
        int registers = 2 + below(15);
        int most = 1 + below(41);
        for (int k = 0; k < calls; k++) {
            oneCall("run " + run + ", call " + k, heap, model, registers, most);
        }
        CHECKS.due("run " + run + ", the look at the end", Checks.look(heap), model.look());
    }

    private static void oneCall(String where, HeapPress heap, Model model, int registers, int most) {
        int kind = below(16);
        int r = register(registers);
        int s = register(registers);
        int n = below(30) == 0 ? below(60) - 10 : below(most);
        int i = below(20) == 0 ? below(50) - 5 : below(3);
        boolean links = below(3) != 0;
        long v = ((long) below(1 << 30) << 34) ^ below(300);
        String call = where + ": kind " + kind + " r " + r + " s " + s + " n " + n + " i " + i + " " + links;
        CHECKS.due(call, heapAnswer(heap, kind, r, s, n, i, links, v),
                modelAnswer(model, kind, r, s, n, i, links, v));
    }

    private static String heapAnswer(HeapPress heap, int kind, int r, int s, int n, int i, boolean links, long v) {
        switch (kind) {
            case 0: case 1: case 2: return Checks.answer(() -> heap.make(r, links, n));
            case 3: return Checks.answer(() -> heap.weak(r, s));
            case 4: return Checks.outcome(() -> heap.copy(r, s));
            case 5: return Checks.outcome(() -> heap.drop(r));
            case 6: case 7: case 8: return Checks.outcome(() -> heap.link(r, i, s));
            case 9: case 10: return Checks.outcome(() -> heap.follow(r, s, i));
            case 11: return Checks.outcome(() -> heap.put(r, i, v));
            case 12: return Checks.answer(() -> heap.get(r, i));
            case 13: return n % 8 == 0 ? Checks.answer(heap::collect) : "";
            case 14: return Checks.answer(() -> heap.state(r, i));
            default: return Checks.answer(() -> heap.count(i));
        }
    }

    private static String modelAnswer(Model model, int kind, int r, int s, int n, int i, boolean links, long v) {
        switch (kind) {
            case 0: case 1: case 2: return Checks.answer(() -> model.make(r, links, n));
            case 3: return Checks.answer(() -> model.weak(r, s));
            case 4: return Checks.outcome(() -> model.copy(r, s));
            case 5: return Checks.outcome(() -> model.drop(r));
            case 6: case 7: case 8: return Checks.outcome(() -> model.link(r, i, s));
            case 9: case 10: return Checks.outcome(() -> model.follow(r, s, i));
            case 11: return Checks.outcome(() -> model.put(r, i, v));
            case 12: return Checks.answer(() -> model.get(r, i));
            case 13: return n % 8 == 0 ? Checks.answer(model::collect) : "";
            case 14: return Checks.answer(() -> model.state(r, i));
            default: return Checks.answer(() -> model.count(i));
        }
    }

    private static int register(int registers) {
        return below(40) == 0 ? below(24) - 4 : below(registers);
    }

    // A generator of its own, so that every run of the test makes the same calls.
    private static int below(int bound) {
        seed = seed * 6364136223846793005L + 1442695040888963407L;
        return (int) ((seed >>> 33) % bound);
    }

    private static final class Thing {
        final int kind;
        final Thing[] references;
        final long[] numbers;

        Thing(int kind, int n) {
            this.kind = kind;
            this.references = new Thing[kind == 2 ? 0 : n];
            this.numbers = new long[kind == 2 ? n : 0];
        }

        int n() {
            return references.length + numbers.length;
        }
    }

    private static final class Model {
        private final Thing[] registers = new Thing[16];
        private List<Thing> things = new ArrayList<>();
        private int collections = 0;

        int make(int r, boolean links, int n) {
            range(r, 15);
            range(n, 40);
            return placed(r, new Thing(links ? 1 : 2, n));
        }

        int weak(int r, int s) {
            range(r, 15);
            range(s, 15);
            Thing thing = new Thing(3, 1);
            thing.references[0] = there(registers[s]);
            return placed(r, thing);
        }

        private int placed(int r, Thing thing) {
            if (cells() + 1 + thing.n() > 300) {
                collect();
            }
            if (cells() + 1 + thing.n() > 300) {
                throw new IllegalStateException();
            }
            things.add(thing);
            registers[r] = thing;
            return place(thing);
        }

        void copy(int r, int s) {
            range(r, 15);
            range(s, 15);
            registers[r] = registers[s];
        }

        void drop(int r) {
            range(r, 15);
            registers[r] = null;
        }

        void link(int r, int i, int s) {
            range(r, 15);
            range(s, 15);
            Thing thing = there(registers[r]);
            range(thing.kind, 1);
            range(i, thing.references.length - 1);
            thing.references[i] = registers[s];
        }

        void follow(int r, int s, int i) {
            range(r, 15);
            range(s, 15);
            Thing thing = there(registers[s]);
            range(i, thing.references.length - 1);
            registers[r] = thing.references[i];
        }

        void put(int r, int i, long v) {
            range(r, 15);
            Thing thing = there(registers[r]);
            range(i, thing.numbers.length - 1);
            thing.numbers[i] = v;
        }

        long get(int r, int i) {
            range(r, 15);
            Thing thing = there(registers[r]);
            range(i, thing.numbers.length - 1);
            return thing.numbers[i];
        }

        int collect() {
            collections++;
            Set<Thing> reached = reached();
            List<Thing> left = new ArrayList<>();
            for (Thing thing : things) {
                if (reached.contains(thing)) {
                    left.add(thing);
                }
            }
            for (Thing thing : left) {
                if (thing.kind == 3 && !reached.contains(thing.references[0])) {
                    thing.references[0] = null;
                }
            }
            int went = things.size() - left.size();
            things = left;
            return went;
        }

        private Set<Thing> reached() {
            Set<Thing> reached = Collections.newSetFromMap(new IdentityHashMap<>());
            ArrayDeque<Thing> waiting = new ArrayDeque<>();
            for (Thing thing : registers) {
                wait(thing, reached, waiting);
            }
            while (!waiting.isEmpty()) {
                Thing next = waiting.pop();
                for (Thing thing : next.references) {
                    wait(next.kind == 1 ? thing : null, reached, waiting);
                }
            }
            return reached;
        }

        private static void wait(Thing thing, Set<Thing> reached, ArrayDeque<Thing> waiting) {
            if (thing != null && reached.add(thing)) {
                waiting.push(thing);
            }
        }

        int state(int r, int what) {
            range(r, 15);
            range(what, 2);
            Thing thing = registers[r];
            if (thing == null) {
                return what == 0 ? 0 : -1;
            }
            return what == 0 ? thing.kind : what == 1 ? place(thing) : thing.n();
        }

        int count(int what) {
            return what == 0 ? cells() : what == 1 ? things.size() : what == 2 ? collections : -1;
        }

        String look() {
            StringBuilder text = new StringBuilder();
            for (int r = 0; r < 16; r++) {
                text.append(state(r, 0) + " " + state(r, 1) + " " + state(r, 2) + "; ");
            }
            return text + "" + count(0) + " " + count(1) + " " + count(2);
        }

        private int cells() {
            return before(null);
        }

        private int place(Thing thing) {
            return before(thing);
        }

        private int before(Thing end) {
            int cells = 0;
            for (Thing thing : things) {
                if (thing == end) {
                    return cells;
                }
                cells += 1 + thing.n();
            }
            return cells;
        }

        private static void range(int number, int last) {
            if (number < 0 || number > last) {
                throw new IllegalArgumentException();
            }
        }

        private static Thing there(Thing thing) {
            if (thing == null) {
                throw new NoSuchElementException();
            }
            return thing;
        }
    }
}
