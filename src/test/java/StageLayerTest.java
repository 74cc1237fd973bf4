/** Each promise of the document by ordinary inputs, by its edges and by wrong inputs. */
public final class StageLayerTest {
    private static final int NONE = StageLayer.NONE;
    private static final int ALL = (1 << 28) - 1;
    private static final String OUTSIDE = "IndexOutOfBoundsException";
    private static final String ARGUMENT = "IllegalArgumentException";
    private static final String STATE = "IllegalStateException";

    private static int wrong = 0;

    private interface Call {
        int run();
    }

    public static void main(String[] args) {
        newObject();
        clear();
        assign();
        load();
        store();
        valid();
        drop();
        open();
        close();
        apply();
        stepLimit();
        readLimit();
        refusedCallsChangeNothing();
        dependencies();
        validities();
        ifs();
        arrays();
        stageIsFull();
        memoryAndWires();
        lay();
        homeless();
        stage();
        used();
        count();
        System.out.println(wrong == 0 ? "all answers are as due" : wrong + " answers are not as due");
        if (wrong != 0) {
            System.exit(1);
        }
    }

    private static void due(String what, int got, int want) {
        if (got != want) {
            wrong++;
            System.out.println(what + " answered " + got + ", due is " + want);
        }
    }

    private static void thrown(String what, String want, Call call) {
        String got = "nothing";
        try {
            call.run();
        } catch (RuntimeException e) {
            got = e.getClass().getSimpleName();
        }
        if (!got.equals(want)) {
            wrong++;
            System.out.println(what + " threw " + got + ", due is " + want);
        }
    }

    private static void stages(String what, StageLayer x, int... want) {
        for (int step = 0; step < want.length; step++) {
            due(what + ": stage(" + step + ")", x.stage(step), want[step]);
        }
        due(what + ": stage behind the last step", x.stage(want.length), NONE);
    }

    /** Lays with all the stages, memory and wires there can be. */
    private static int layWide(StageLayer x) {
        return x.lay(12, Integer.MAX_VALUE, Integer.MAX_VALUE);
    }

    private static int meta(int k) {
        return 1 << k;
    }

    private static int field(int k) {
        return 1 << (16 + k);
    }

    private static void newObject() {
        StageLayer x = new StageLayer();
        due("new: NONE", NONE, -1);
        due("new: steps", x.count(0), 0);
        due("new: tables", x.count(1), 0);
        due("new: open", x.count(2), 0);
        due("new: homeless", x.homeless(), NONE);
        due("new: stage", x.stage(0), NONE);
        due("new: used", x.used(0, 0), NONE);
        thrown("new: close", STATE, x::close);
    }

    private static void clear() {
        StageLayer x = new StageLayer();
        x.open(0);
        x.load(0, 3, 1);
        x.apply(1, 2, 3);
        layWide(x);
        x.clear();
        due("clear: steps", x.count(0), 0);
        due("clear: tables", x.count(1), 0);
        due("clear: open", x.count(2), 0);
        due("clear: stage", x.stage(0), NONE);
        due("clear: used", x.used(0, 0), NONE);
        thrown("clear: close", STATE, x::close);
        due("clear: first step", x.assign(0, 0), 0);
        due("clear: second step", x.store(3, 0, 0), 1);
        due("clear: lay", layWide(x), 1);
        due("clear: no memory is left behind", x.used(0, 1), 0);
        x.assign(1, 1);
        due("clear: lay fails", x.lay(1, 0, 0), NONE);
        due("clear: homeless before", x.homeless(), 2);
        x.clear();
        due("clear: homeless", x.homeless(), NONE);
        for (int n = 0; n < 8; n++) {
            x.apply(ALL & 15, 1, 20);
        }
        x.clear();
        due("clear: tables come again", x.apply(1, 1, 1), 0);
        x.clear();
        for (int n = 0; n < 28; n++) {
            x.assign(0, ALL);
        }
        x.clear();
        readPlaces(x, 800);
        due("clear: all places may be read again", x.count(0), 29);
    }

    private static void assign() {
        StageLayer x = new StageLayer();
        due("assign: first", x.assign(0, 0), 0);
        due("assign: last place", x.assign(27, ALL), 1);
        due("assign: last bit", x.assign(15, 1 << 27), 2);
        thrown("assign: place -1", OUTSIDE, () -> x.assign(-1, 0));
        thrown("assign: place 28", OUTSIDE, () -> x.assign(28, 0));
        thrown("assign: place min", OUTSIDE, () -> x.assign(Integer.MIN_VALUE, 0));
        thrown("assign: place max", OUTSIDE, () -> x.assign(Integer.MAX_VALUE, 0));
        thrown("assign: bit 28", OUTSIDE, () -> x.assign(0, 1 << 28));
        thrown("assign: bit 31", OUTSIDE, () -> x.assign(0, 1 << 31));
        thrown("assign: all bits", OUTSIDE, () -> x.assign(0, -1));
        due("assign: steps", x.count(0), 3);
    }

    private static void load() {
        StageLayer x = new StageLayer();
        due("load: first", x.load(0, 0, 0), 0);
        due("load: last", x.load(27, 7, ALL), 1);
        thrown("load: place -1", OUTSIDE, () -> x.load(-1, 0, 0));
        thrown("load: place 28", OUTSIDE, () -> x.load(28, 0, 0));
        thrown("load: array -1", OUTSIDE, () -> x.load(0, -1, 0));
        thrown("load: array 8", OUTSIDE, () -> x.load(0, 8, 0));
        thrown("load: bit 28", OUTSIDE, () -> x.load(0, 0, 1 << 28));
        thrown("load: bit 31", OUTSIDE, () -> x.load(0, 0, 1 << 31));
        due("load: steps", x.count(0), 2);
    }

    private static void store() {
        StageLayer x = new StageLayer();
        due("store: first", x.store(0, 0, 0), 0);
        due("store: last", x.store(7, ALL, ALL), 1);
        thrown("store: array -1", OUTSIDE, () -> x.store(-1, 0, 0));
        thrown("store: array 8", OUTSIDE, () -> x.store(8, 0, 0));
        thrown("store: index's bit 28", OUTSIDE, () -> x.store(0, 1 << 28, 0));
        thrown("store: word's bit 28", OUTSIDE, () -> x.store(0, 0, 1 << 28));
        thrown("store: word's bit 31", OUTSIDE, () -> x.store(0, 0, 1 << 31));
        due("store: steps", x.count(0), 2);
    }

    private static void valid() {
        StageLayer x = new StageLayer();
        due("valid: first", x.valid(0, true), 0);
        due("valid: last", x.valid(11, false), 1);
        thrown("valid: -1", OUTSIDE, () -> x.valid(-1, true));
        thrown("valid: 12", OUTSIDE, () -> x.valid(12, true));
        thrown("valid: take 12", OUTSIDE, () -> x.valid(12, false));
        due("valid: steps", x.count(0), 2);
    }

    private static void drop() {
        StageLayer x = new StageLayer();
        due("drop: first", x.drop(), 0);
        due("drop: second", x.drop(), 1);
        x.valid(11, true);
        due("drop: lay", layWide(x), 2);
        stages("drop: both write what is dropped, ADD does not", x, 0, 1, 0);
    }

    private static void open() {
        StageLayer x = new StageLayer();
        for (int n = 0; n < 8; n++) {
            due("open: step", x.open(n == 0 ? ALL : 0), n);
        }
        due("open: 8 are open", x.count(2), 8);
        thrown("open: a ninth", STATE, () -> x.open(0));
        thrown("open: bits before state", OUTSIDE, () -> x.open(1 << 28));
        due("open: steps", x.count(0), 8);
        due("open: still 8", x.count(2), 8);
        x.close();
        due("open: again", x.open(0), 8);
        thrown("open: bit 31", OUTSIDE, () -> new StageLayer().open(1 << 31));
    }

    private static void close() {
        StageLayer x = new StageLayer();
        x.open(0);
        x.assign(0, 0);
        x.open(0);
        due("close: inner", x.close(), 2);
        x.open(0);
        due("close: second inner", x.close(), 3);
        due("close: outer", x.close(), 0);
        thrown("close: none", STATE, x::close);
        due("close: is no step", x.count(0), 4);
        due("close: none is open", x.count(2), 0);

        x.open(0);
        layWide(x);
        x.close();
        due("close: what is laid stays", x.stage(0), 0);
    }

    private static void apply() {
        StageLayer x = new StageLayer();
        due("apply: one key", x.apply(1, 1, 0), 0);
        due("apply: four keys", x.apply(15 << 24, 32, 27), 1);
        thrown("apply: place -1", OUTSIDE, () -> x.apply(1, 1, -1));
        thrown("apply: place 28", OUTSIDE, () -> x.apply(1, 1, 28));
        thrown("apply: bit 28", OUTSIDE, () -> x.apply(1 << 28, 1, 0));
        thrown("apply: bit 31", OUTSIDE, () -> x.apply(1 << 31, 1, 0));
        thrown("apply: no room", ARGUMENT, () -> x.apply(1, 0, 0));
        thrown("apply: room -1", ARGUMENT, () -> x.apply(1, -1, 0));
        thrown("apply: room 33", ARGUMENT, () -> x.apply(1, 33, 0));
        thrown("apply: no key", ARGUMENT, () -> x.apply(0, 1, 0));
        thrown("apply: five keys", ARGUMENT, () -> x.apply(31, 1, 0));
        thrown("apply: place before room", OUTSIDE, () -> x.apply(1, 0, 28));
        thrown("apply: bits before room", OUTSIDE, () -> x.apply(-1, 0, 0));
        due("apply: steps", x.count(0), 2);
        due("apply: tables", x.count(1), 2);
        for (int n = 2; n < 8; n++) {
            x.apply(1, 1, 0);
        }
        thrown("apply: a ninth table", STATE, () -> x.apply(1, 1, 0));
        thrown("apply: place before state", OUTSIDE, () -> x.apply(1, 1, 28));
        thrown("apply: room before state", ARGUMENT, () -> x.apply(1, 33, 0));
        due("apply: 8 steps", x.count(0), 8);
        due("apply: 8 tables", x.count(1), 8);
        due("apply: others may come", x.assign(0, 0), 8);
    }

    private static void stepLimit() {
        StageLayer x = new StageLayer();
        for (int n = 0; n < 48; n++) {
            due("limit: step", x.drop(), n);
        }
        thrown("limit: assign", STATE, () -> x.assign(0, 0));
        thrown("limit: load", STATE, () -> x.load(0, 0, 0));
        thrown("limit: store", STATE, () -> x.store(0, 0, 0));
        thrown("limit: valid", STATE, () -> x.valid(0, true));
        thrown("limit: drop", STATE, x::drop);
        thrown("limit: open", STATE, () -> x.open(0));
        thrown("limit: apply", STATE, () -> x.apply(1, 1, 0));
        thrown("limit: place before state", OUTSIDE, () -> x.assign(28, 0));
        thrown("limit: array before state", OUTSIDE, () -> x.load(0, 8, 0));
        thrown("limit: word before state", OUTSIDE, () -> x.store(0, 0, -1));
        thrown("limit: instance before state", OUTSIDE, () -> x.valid(12, true));
        due("limit: steps", x.count(0), 48);
        due("limit: tables", x.count(1), 0);
        due("limit: open", x.count(2), 0);
        due("limit: stage 48", x.stage(48), NONE);
    }

    /** An object in which so many places were read, by assigns. */
    private static StageLayer afterReading(int places) {
        StageLayer x = new StageLayer();
        readPlaces(x, places);
        return x;
    }

    private static void readPlaces(StageLayer x, int places) {
        int left = places;
        while (left > 0) {
            int now = Math.min(left, 28);
            x.assign(0, (int) ((1L << now) - 1));
            left -= now;
        }
    }

    private static void readLimit() {
        due("read: 800", afterReading(800).count(0), 29);
        StageLayer full = afterReading(800);
        thrown("read: a reading of none", STATE, () -> full.assign(0, 0));
        thrown("read: one more", STATE, () -> full.load(0, 0, 1));
        thrown("read: an IF of none", STATE, () -> full.open(0));
        due("read: ADD has no reading", full.valid(0, true), 29);
        due("read: DROP has no reading", full.drop(), 30);

        due("read: assign of none counts one", afterReading(799).assign(0, 0), 29);
        due("read: load of none counts one", afterReading(799).load(0, 0, 0), 29);
        due("read: open of none counts one", afterReading(799).open(0), 29);
        due("read: place 28", afterReading(772).assign(0, ALL), 28);
        thrown("read: 801 by assign", STATE, () -> afterReading(773).assign(0, ALL));
        thrown("read: 801 by load", STATE, () -> afterReading(773).load(0, 0, ALL));
        thrown("read: 801 by open", STATE, () -> afterReading(773).open(ALL));

        due("read: store of none counts two", afterReading(798).store(0, 0, 0), 29);
        thrown("read: store of none, 801", STATE, () -> afterReading(799).store(0, 0, 0));
        due("read: store counts both", afterReading(795).store(0, 7, 3), 29);
        thrown("read: store counts both, 801", STATE, () -> afterReading(796).store(0, 7, 3));

        due("read: apply counts keys and one", afterReading(797).apply(3, 1, 0), 29);
        thrown("read: apply, 801", STATE, () -> afterReading(798).apply(3, 1, 0));
    }

    private static void refusedCallsChangeNothing() {
        StageLayer x = new StageLayer();
        x.assign(0, 1);
        x.assign(1, 1);
        due("refused: lay", layWide(x), 2);
        thrown("refused: assign", OUTSIDE, () -> x.assign(28, 0));
        thrown("refused: close", STATE, x::close);
        thrown("refused: apply", ARGUMENT, () -> x.apply(0, 1, 1));
        thrown("refused: lay", ARGUMENT, () -> x.lay(0, 0, 0));
        stages("refused: stays laid", x, 0, 1);

        StageLayer full = afterReading(800);
        thrown("refused: apply over 800", STATE, () -> full.apply(1, 1, 0));
        thrown("refused: open over 800", STATE, () -> full.open(0));
        due("refused: tables", full.count(1), 0);
        due("refused: open", full.count(2), 0);
        due("refused: steps", full.count(0), 29);

        StageLayer near = afterReading(795);
        thrown("refused: six places", STATE, () -> near.assign(0, 63));
        due("refused: six places do not count", near.assign(0, 31), 29);
    }

    private static void dependencies() {
        StageLayer x = new StageLayer();
        x.assign(0, 0);
        x.assign(1, meta(0));
        x.assign(0, 0);
        x.assign(2, meta(3));
        x.assign(3, 0);
        x.assign(4, meta(5));
        due("dependencies: lay", layWide(x), 2);
        stages("write-read and write-write later, read-write same", x, 0, 1, 1, 0, 0, 0);

        x.clear();
        x.assign(0, 0);
        x.assign(1, meta(0) | meta(2));
        x.assign(2, 0);
        layWide(x);
        stages("read-write is not earlier", x, 0, 1, 1);

        x.clear();
        x.assign(0, meta(0));
        x.assign(15, meta(14));
        x.assign(14, meta(15));
        layWide(x);
        stages("a step's own reading does not hold it", x, 0, 0, 1);

        x.clear();
        x.assign(16, 0);
        x.store(0, field(0), 0);
        x.store(1, 0, field(0));
        x.load(17, 2, field(0));
        x.apply(field(1), 1, 5);
        x.open(meta(5));
        layWide(x);
        stages("every kind reads", x, 0, 1, 1, 1, 2, 3);

        x.clear();
        x.apply(meta(0), 1, 1);
        x.load(2, 0, meta(1));
        x.assign(3, meta(2));
        x.store(1, meta(3), meta(4));
        x.assign(4, 0);
        x.assign(0, 0);
        x.assign(1, 0);
        layWide(x);
        stages("every kind writes", x, 0, 1, 2, 3, 3, 0, 1);
    }

    private static void validities() {
        StageLayer x = new StageLayer();
        x.assign(16, 0);
        x.assign(0, field(1));
        x.valid(0, true);
        x.valid(1, true);
        due("validity: lay", layWide(x), 2);
        stages("ADD writes the field; a reading of a field may be with it", x, 0, 0, 1, 0);

        x.clear();
        x.valid(3, true);
        x.valid(3, false);
        x.valid(4, false);
        x.assign(0, field(3));
        x.assign(20, 0);
        x.assign(1, field(5));
        x.assign(2, meta(3) | meta(4));
        layWide(x);
        stages("ADD and TAKE write, a field's use reads", x, 0, 1, 0, 2, 1, 0, 0);

        x.clear();
        x.valid(11, true);
        x.apply(meta(1), 1, 27);
        x.valid(10, true);
        x.load(26, 0, 0);
        x.valid(9, false);
        x.open(field(9));
        layWide(x);
        stages("APPLY, LOAD and IF of a field read its validity", x, 0, 1, 0, 1, 0, 1);

        x.clear();
        x.valid(0, true);
        x.assign(0, 0);
        x.assign(12, 0);
        x.drop();
        layWide(x);
        stages("an instance is no meta", x, 0, 0, 0, 0);

        x.clear();
        x.valid(3, true);
        x.assign(18, field(2));
        x.assign(20, field(4));
        layWide(x);
        stages("an instance's neighbours are free of it", x, 0, 0, 0);
    }

    private static void ifs() {
        StageLayer x = new StageLayer();
        x.open(meta(0));
        x.assign(1, 0);
        x.open(0);
        x.drop();
        x.close();
        x.assign(2, 0);
        x.close();
        x.assign(3, 0);
        x.assign(0, 0);
        due("ifs: lay", layWide(x), 3);
        stages("ifs: later than the IF around", x, 0, 1, 1, 2, 1, 0, 0);

        x.clear();
        x.assign(0, 0);
        x.open(meta(0));
        x.open(0);
        x.valid(0, true);
        x.load(5, 0, 0);
        due("ifs: open ones are laid too", layWide(x), 4);
        stages("ifs: open", x, 0, 1, 2, 3, 3);

        x.clear();
        for (int n = 0; n < 8; n++) {
            x.open(0);
        }
        x.drop();
        due("ifs: in 8 of them", layWide(x), 9);
        stages("ifs: in 8 of them", x, 0, 1, 2, 3, 4, 5, 6, 7, 8);
    }

    private static void arrays() {
        StageLayer x = new StageLayer();
        x.assign(0, 0);
        x.load(1, 4, meta(0));
        x.store(4, 0, 0);
        x.load(2, 4, 0);
        x.store(5, 0, 0);
        x.store(0, 0, 0);
        due("arrays: lay", layWide(x), 2);
        stages("arrays: the same stage", x, 0, 1, 1, 1, 0, 0);

        x.clear();
        x.store(7, 0, 0);
        x.assign(0, 0);
        x.store(7, meta(0), 0);
        due("arrays: cannot be in the same", layWide(x), NONE);
        due("arrays: homeless", x.homeless(), 2);

        x.clear();
        for (int n = 0; n < 9; n++) {
            x.store(0, 0, 0);
        }
        due("arrays: the stage is full", layWide(x), NONE);
        due("arrays: the ninth is homeless", x.homeless(), 8);

        x.clear();
        x.store(1, 0, 0);
        x.open(0);
        x.store(1, 0, 0);
        due("arrays: an IF between", layWide(x), NONE);
        due("arrays: behind the IF is homeless", x.homeless(), 2);

        x.clear();
        for (int n = 0; n < 7; n++) {
            x.assign(n, 0);
        }
        x.store(0, 0, 0);
        x.store(1, 0, 0);
        x.store(1, 0, 0);
        layWide(x);
        stages("arrays: where the first found room", x, 0, 0, 0, 0, 0, 0, 0, 0, 1, 1);
    }

    private static void stageIsFull() {
        StageLayer x = new StageLayer();
        for (int n = 0; n < 8; n++) {
            x.assign(n, 0);
        }
        due("full: 8 in one", x.lay(1, 0, 0), 1);
        due("full: used", x.used(0, 0), 8);
        x.assign(8, 0);
        due("full: 9 in one", x.lay(1, 0, 0), NONE);
        due("full: homeless", x.homeless(), 8);
        due("full: 9 in two", x.lay(2, 0, 0), 2);
        due("full: the ninth", x.stage(8), 1);
        due("full: used in the second", x.used(1, 0), 1);

        x.clear();
        for (int n = 0; n < 48; n++) {
            x.open(0);
            x.close();
        }
        due("full: 48 steps", layWide(x), 6);
        due("full: 8 in the last", x.used(5, 0), 8);
        due("full: the 48th step", x.stage(47), 5);
    }

    private static void memoryAndWires() {
        StageLayer x = new StageLayer();
        x.apply(meta(0), 2, 5);
        x.apply(meta(0) | field(1), 3, 6);
        x.assign(7, 0);
        x.apply(meta(1), 1, 8);
        due("tables: wide", x.lay(3, 48 + 120 + 24, 8 + 16 + 8), 1);
        due("tables: memory", x.used(0, 1), 192);
        due("tables: wires", x.used(0, 2), 32);
        due("tables: steps", x.used(0, 0), 4);

        due("tables: memory short by 1", x.lay(3, 191, 32), 2);
        stages("tables: memory short by 1", x, 0, 0, 0, 1);
        due("tables: memory of the first", x.used(0, 1), 168);
        due("tables: memory of the second", x.used(1, 1), 24);

        due("tables: wires short by 1", x.lay(3, 192, 31), 2);
        stages("tables: wires short by 1", x, 0, 0, 0, 1);
        due("tables: wires of the first", x.used(0, 2), 24);

        due("tables: a later one fills the gap", x.lay(3, 120, 100), 2);
        stages("tables: a later one fills the gap", x, 0, 1, 0, 0);

        due("tables: too large for any", x.lay(12, 119, 100), NONE);
        due("tables: too large is homeless", x.homeless(), 1);
        due("tables: no wires", x.lay(12, 1000, 0), NONE);
        due("tables: the first is homeless", x.homeless(), 0);

        x.clear();
        x.apply(15, 32, 20);
        due("tables: the largest", x.lay(1, 2304, 32), 1);
        due("tables: its memory", x.used(0, 1), 2304);
        due("tables: its wires", x.used(0, 2), 32);
        due("tables: too large by 1", x.lay(1, 2303, 32), NONE);
        due("tables: too wide by 1", x.lay(1, 2304, 31), NONE);

        x.clear();
        x.assign(0, 0);
        due("tables: others need neither", x.lay(1, 0, 0), 1);
    }

    private static void lay() {
        StageLayer x = new StageLayer();
        due("lay: no steps", x.lay(1, 0, 0), 1);
        due("lay: the empty stage is there", x.used(0, 0), 0);
        due("lay: no second stage", x.used(1, 0), NONE);
        due("lay: no step", x.stage(0), NONE);
        thrown("lay: stages 0", ARGUMENT, () -> x.lay(0, 0, 0));
        thrown("lay: stages -1", ARGUMENT, () -> x.lay(-1, 0, 0));
        thrown("lay: stages 13", ARGUMENT, () -> x.lay(13, 0, 0));
        thrown("lay: memory -1", ARGUMENT, () -> x.lay(1, -1, 0));
        thrown("lay: wires -1", ARGUMENT, () -> x.lay(1, 0, -1));

        for (int n = 0; n < 12; n++) {
            x.assign(0, 0);
        }
        due("lay: 12 stages", x.lay(12, 0, 0), 12);
        due("lay: the last", x.stage(11), 11);
        due("lay: 11 stages do not do", x.lay(11, 0, 0), NONE);
        due("lay: nothing is laid then", x.stage(0), NONE);
        due("lay: nothing is used then", x.used(0, 0), NONE);
        due("lay: again", x.lay(12, 0, 0), 12);
        due("lay: used once", x.used(0, 0), 1);
        x.assign(1, 0);
        due("lay: a step came, nothing is laid", x.stage(0), NONE);
        due("lay: a step came, nothing is used", x.used(0, 0), NONE);
        due("lay: a step came, no stage of its own", x.stage(12), NONE);
        due("lay: with it", x.lay(12, 0, 0), 12);
        due("lay: it is in the first", x.stage(12), 0);
        x.assign(0, 0);
        due("lay: a 13th stage is not there", x.lay(12, 0, 0), NONE);
    }

    private static void homeless() {
        StageLayer x = new StageLayer();
        x.assign(0, 0);
        x.assign(0, 0);
        x.assign(0, 0);
        due("homeless: not laid", x.homeless(), NONE);
        x.lay(1, 0, 0);
        due("homeless: the first that finds none", x.homeless(), 1);
        x.lay(2, 0, 0);
        due("homeless: the latest lay", x.homeless(), 2);
        thrown("homeless: refused lay", ARGUMENT, () -> x.lay(0, 0, 0));
        due("homeless: a refused lay leaves it", x.homeless(), 2);
        x.lay(3, 0, 0);
        due("homeless: none", x.homeless(), NONE);
        x.lay(1, 0, 0);
        x.drop();
        due("homeless: a step came", x.homeless(), NONE);
        x.lay(1, 0, 0);
        x.open(0);
        due("homeless: an IF came", x.homeless(), NONE);
        x.lay(1, 0, 0);
        x.close();
        due("homeless: close is no step", x.homeless(), 1);
    }

    private static void stage() {
        StageLayer x = new StageLayer();
        x.assign(0, 0);
        x.assign(0, 0);
        due("stage: not laid", x.stage(0), NONE);
        layWide(x);
        due("stage: first", x.stage(0), 0);
        due("stage: second", x.stage(1), 1);
        due("stage: no third", x.stage(2), NONE);
        due("stage: -1", x.stage(-1), NONE);
        due("stage: 48", x.stage(48), NONE);
        due("stage: min", x.stage(Integer.MIN_VALUE), NONE);
        due("stage: max", x.stage(Integer.MAX_VALUE), NONE);
    }

    private static void used() {
        StageLayer x = new StageLayer();
        x.apply(3, 2, 0);
        x.assign(0, 0);
        due("used: not laid", x.used(0, 0), NONE);
        layWide(x);
        due("used: steps", x.used(0, 0), 1);
        due("used: memory", x.used(0, 1), 80);
        due("used: wires", x.used(0, 2), 16);
        due("used: memory of the second", x.used(1, 1), 0);
        due("used: wires of the second", x.used(1, 2), 0);
        due("used: what 3", x.used(0, 3), NONE);
        due("used: what -1", x.used(0, -1), NONE);
        due("used: stage -1", x.used(-1, 0), NONE);
        due("used: a stage that is not taken", x.used(2, 0), NONE);
        due("used: stage 12", x.used(12, 0), NONE);
        due("used: stage max", x.used(Integer.MAX_VALUE, 1), NONE);
        due("used: stage min", x.used(Integer.MIN_VALUE, 2), NONE);
    }

    private static void count() {
        StageLayer x = new StageLayer();
        x.open(0);
        x.open(0);
        x.apply(1, 1, 0);
        due("count: steps", x.count(0), 3);
        due("count: tables", x.count(1), 1);
        due("count: open", x.count(2), 2);
        x.close();
        due("count: open after close", x.count(2), 1);
        due("count: what 3", x.count(3), NONE);
        due("count: what -1", x.count(-1), NONE);
    }
}
