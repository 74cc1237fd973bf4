import java.util.ArrayDeque;
import java.util.ArrayList;
import java.util.Collections;
import java.util.Deque;
import java.util.HashSet;
import java.util.List;
import java.util.Random;
import java.util.Set;

/**
 * Compares StageLayer over many long runs of calls with a second, slow telling of the document in
 * sets of names. The seeds are fixed, so every run of the test makes the same calls.
 */
public final class StageLayerModelTest {
    private static final int RUNS = 3000;
    private static final int MOST_CALLS = 511;

    private static final class Step {
        final Set<String> reads = new HashSet<>();
        final Set<String> writes = new HashSet<>();
        final List<Integer> ifs = new ArrayList<>();
        int array = -1;
        int memory = 0;
        int wires = 0;
        int stage = -1;
    }

    private static final class Model {
        final List<Step> steps = new ArrayList<>();
        final Deque<Integer> open = new ArrayDeque<>();
        int tables = 0;
        int places = 0;
        int laid = 0;
        int homeless = -1;

        void clear() {
            steps.clear();
            open.clear();
            tables = 0;
            places = 0;
            laid = 0;
            homeless = -1;
        }

        static void checkPlace(int place) {
            if (place < 0 || place > 27) throw new IndexOutOfBoundsException();
        }

        static void checkBits(int bits) {
            for (int k = 28; k < 32; k++) {
                if ((bits >> k & 1) == 1) throw new IndexOutOfBoundsException();
            }
        }

        static void checkArray(int array) {
            if (array < 0 || array > 7) throw new IndexOutOfBoundsException();
        }

        static int read(Step step, int bits) {
            int n = 0;
            for (int k = 0; k < 28; k++) {
                if ((bits >> k & 1) == 1) {
                    n++;
                    step.reads.add(name(k));
                    if (k >= 16) step.reads.add("validity " + (k - 16));
                }
            }
            return n == 0 ? 1 : n;
        }

        static void write(Step step, int place) {
            step.writes.add(name(place));
            if (place >= 16) step.reads.add("validity " + (place - 16));
        }

        static String name(int place) {
            return place < 16 ? "meta " + place : "field " + (place - 16);
        }

        int come(Step step, int cost) {
            if (steps.size() == 48 || places + cost > 800) throw new IllegalStateException();
            places += cost;
            step.ifs.addAll(open);
            steps.add(step);
            laid = 0;
            homeless = -1;
            return steps.size() - 1;
        }

        int assign(int to, int reads) {
            checkPlace(to);
            checkBits(reads);
            Step step = new Step();
            write(step, to);
            return come(step, read(step, reads));
        }

        int load(int to, int array, int reads) {
            checkPlace(to);
            checkArray(array);
            checkBits(reads);
            Step step = new Step();
            step.array = array;
            write(step, to);
            return come(step, read(step, reads));
        }

        int store(int array, int index, int word) {
            checkArray(array);
            checkBits(index);
            checkBits(word);
            Step step = new Step();
            step.array = array;
            return come(step, read(step, index) + read(step, word));
        }

        int valid(int instance) {
            if (instance < 0 || instance > 11) throw new IndexOutOfBoundsException();
            Step step = new Step();
            write(step, 16 + instance);
            step.writes.add("validity " + instance);
            return come(step, 0);
        }

        int drop() {
            Step step = new Step();
            step.writes.add("dropped");
            return come(step, 0);
        }

        int open(int reads) {
            checkBits(reads);
            if (open.size() == 8) throw new IllegalStateException();
            Step step = new Step();
            int number = come(step, read(step, reads));
            open.push(number);
            return number;
        }

        int close() {
            if (open.isEmpty()) throw new IllegalStateException();
            return open.pop();
        }

        int apply(int keys, int room, int to) {
            checkPlace(to);
            checkBits(keys);
            int n = Integer.bitCount(keys);
            if (room < 1 || room > 32 || n < 1 || n > 4) throw new IllegalArgumentException();
            if (tables == 8) throw new IllegalStateException();
            Step step = new Step();
            step.memory = room * (16 * n + 8);
            step.wires = 8 * n;
            write(step, to);
            int number = come(step, read(step, keys) + 1);
            tables++;
            return number;
        }

        int lay(int stages, int memory, int wires) {
            if (stages < 1 || stages > 12 || memory < 0 || wires < 0) {
                throw new IllegalArgumentException();
            }
            laid = 0;
            homeless = -1;
            int most = 1;
            for (int j = 0; j < steps.size(); j++) {
                int home = -1;
                for (int s = stages - 1; s >= 0; s--) {
                    if (mayBe(j, s) && fits(j, s, memory, wires)) home = s;
                }
                if (home < 0) {
                    homeless = j;
                    return -1;
                }
                steps.get(j).stage = home;
                most = Math.max(most, home + 1);
            }
            laid = most;
            return most;
        }

        boolean mayBe(int j, int s) {
            Step me = steps.get(j);
            for (int i = 0; i < j; i++) {
                Step it = steps.get(i);
                boolean later = !Collections.disjoint(it.writes, me.reads)
                        || !Collections.disjoint(it.writes, me.writes)
                        || me.ifs.contains(i);
                boolean notEarlier = !Collections.disjoint(it.reads, me.writes);
                boolean same = me.array >= 0 && me.array == it.array;
                if (later && s <= it.stage) return false;
                if (notEarlier && s < it.stage) return false;
                if (same && s != it.stage) return false;
            }
            return true;
        }

        boolean fits(int j, int s, int memory, int wires) {
            return sum(j, s, 0) + 1 <= 8
                    && sum(j, s, 1) + steps.get(j).memory <= memory
                    && sum(j, s, 2) + steps.get(j).wires <= wires;
        }

        /** What the first steps use of a stage. */
        long sum(int first, int s, int what) {
            long n = 0;
            for (int i = 0; i < first; i++) {
                Step it = steps.get(i);
                if (it.stage == s) n += what == 0 ? 1 : what == 1 ? it.memory : it.wires;
            }
            return n;
        }

        int stage(int step) {
            return laid == 0 || step < 0 || step >= steps.size() ? -1 : steps.get(step).stage;
        }

        int used(int s, int what) {
            if (s < 0 || s >= laid || what < 0 || what > 2) return -1;
            return (int) sum(steps.size(), s, what);
        }

        int count(int what) {
            return what == 0 ? steps.size() : what == 1 ? tables : what == 2 ? open.size() : -1;
        }
    }

    /** One run: the same calls on both, until they differ or the object's calls are spent. */
    private static final class Run {
        final Random random;
        final StageLayer real = new StageLayer();
        final Model model = new Model();
        final StringBuilder told = new StringBuilder();
        final int width;
        final int clearing;
        int calls = 0;
        boolean same = true;

        Run(int seed) {
            random = new Random(seed);
            // Few places make chains, many make broad stages and many places read.
            width = 1 + random.nextInt(28);
            clearing = 20 + random.nextInt(400);
        }

        int upTo(int most) {
            return random.nextInt(most + 1);
        }

        boolean seldom() {
            return random.nextInt(40) == 0;
        }

        int place() {
            return seldom() ? upTo(60) - 20 : upTo(width - 1) * 27 / width + upTo(1);
        }

        int bits() {
            if (seldom()) return random.nextInt();
            if (random.nextInt(12) == 0) return (1 << 28) - 1;
            int bits = 0;
            for (int n = upTo(3); n > 0; n--) bits |= 1 << upTo(27);
            return bits;
        }

        int array() {
            return seldom() ? upTo(20) - 6 : upTo(7);
        }

        int need(int most) {
            int kind = upTo(9);
            return kind == 0 ? -1 : kind < 4 ? Integer.MAX_VALUE : upTo(most);
        }

        boolean go() {
            while (same && calls < MOST_CALLS) {
                if (random.nextInt(clearing) == 0) {
                    told.append("clear()\n");
                    calls++;
                    real.clear();
                    model.clear();
                }
                act(upTo(13));
                if (upTo(5) == 0) look();
            }
            return same;
        }

        void act(int kind) {
            switch (kind) {
                case 0: case 1: {
                    int to = place(), reads = bits();
                    both("assign(" + to + ", " + reads + ")",
                            () -> real.assign(to, reads), () -> model.assign(to, reads));
                    break;
                }
                case 2: {
                    int to = place(), array = array(), reads = bits();
                    both("load(" + to + ", " + array + ", " + reads + ")",
                            () -> real.load(to, array, reads), () -> model.load(to, array, reads));
                    break;
                }
                case 3: {
                    int array = array(), index = bits(), word = bits();
                    both("store(" + array + ", " + index + ", " + word + ")",
                            () -> real.store(array, index, word),
                            () -> model.store(array, index, word));
                    break;
                }
                case 4: {
                    int instance = seldom() ? upTo(30) - 10 : upTo(11);
                    boolean add = upTo(1) == 0;
                    both("valid(" + instance + ", " + add + ")",
                            () -> real.valid(instance, add), () -> model.valid(instance));
                    break;
                }
                case 5:
                    if (upTo(3) == 0) both("drop()", real::drop, model::drop);
                    break;
                case 6: {
                    int reads = bits();
                    both("open(" + reads + ")",
                            () -> real.open(reads), () -> model.open(reads));
                    break;
                }
                case 7:
                    both("close()", real::close, model::close);
                    break;
                case 8: case 9: {
                    int keys = bits(), room = seldom() ? upTo(60) - 10 : 1 + upTo(31), to = place();
                    both("apply(" + keys + ", " + room + ", " + to + ")",
                            () -> real.apply(keys, room, to), () -> model.apply(keys, room, to));
                    break;
                }
                default: {
                    int stages = seldom() ? upTo(30) - 10 : 1 + upTo(11);
                    int memory = need(5000), wires = need(80);
                    both("lay(" + stages + ", " + memory + ", " + wires + ")",
                            () -> real.lay(stages, memory, wires),
                            () -> model.lay(stages, memory, wires));
                    if (model.laid > 0) lookAtLaid();
                }
            }
        }

        void look() {
            int what = upTo(4) - 1;
            both("homeless()", real::homeless, () -> model.homeless);
            both("count(" + what + ")", () -> real.count(what), () -> model.count(what));
            lookAtStage(upTo(50) - 1);
            lookAtUse(upTo(13) - 1, what);
        }

        /** A few looks only: an object's calls are soon spent. */
        void lookAtLaid() {
            for (int n = 0; n < 6; n++) {
                lookAtStage(upTo(model.steps.size()));
            }
            for (int n = 0; n < 3; n++) {
                lookAtUse(upTo(model.laid), n);
            }
        }

        void lookAtStage(int step) {
            both("stage(" + step + ")", () -> real.stage(step), () -> model.stage(step));
        }

        void lookAtUse(int stage, int what) {
            both("used(" + stage + ", " + what + ")",
                    () -> real.used(stage, what), () -> model.used(stage, what));
        }

        void both(String call, Call first, Call second) {
            if (!same || calls >= MOST_CALLS) return;
            calls++;
            String got = answer(first);
            String want = answer(second);
            told.append(call).append(" answered ").append(got).append('\n');
            if (!got.equals(want)) {
                same = false;
                told.append("due is ").append(want).append('\n');
            }
        }

        static String answer(Call call) {
            try {
                return String.valueOf(call.run());
            } catch (RuntimeException e) {
                return "throws." + e.getClass().getSimpleName();
            }
        }
    }

    private interface Call {
        int run();
    }

    public static void main(String[] args) {
        for (int seed = 0; seed < RUNS; seed++) {
            Run run = new Run(seed);
            if (!run.go()) {
                System.out.println("run " + seed + ":\n" + run.told);
                System.exit(1);
            }
        }
        System.out.println("all answers are as due");
    }
}
