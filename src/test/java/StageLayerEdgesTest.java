import java.util.ArrayList;
import java.util.List;

/**
 * Each sentence of the document that names a boundary has a method here, which quotes it: the last
 * input that is allowed and the first that is not, on both sides; empty and full; refused calls.
 */
public final class StageLayerEdgesTest {
    private static final int NONE = StageLayer.NONE;
    private static final int MIN = Integer.MIN_VALUE;
    private static final int MAX = Integer.MAX_VALUE;
    private static final int ALL = (1 << 28) - 1;
    private static final String OUTSIDE = "throws.IndexOutOfBoundsException";
    private static final String ARGUMENT = "throws.IllegalArgumentException";
    private static final String STATE = "throws.IllegalStateException";

    /** Shifts by these would wrap around to places, arrays and instances that there are. */
    private static final int[] WRAPPING = {32, 33, 43, 59, 64, 256, 65536, -32, -31, -5};
    /** The bits that are no place, one by one, together, and with some that are. */
    private static final int[] NO_BITS = {
        1 << 28, 1 << 29, 1 << 30, 1 << 31, 15 << 28, 1 << 28 | 1, 1 << 31 | ALL, -1, MIN, MAX
    };

    private static final Call[] ONE_OF_EACH_KIND = {
        call("assign(0, 0)", x -> x.assign(0, 0)),
        call("load(0, 0, 0)", x -> x.load(0, 0, 0)),
        call("store(0, 0, 0)", x -> x.store(0, 0, 0)),
        call("valid(0, true)", x -> x.valid(0, true)),
        call("valid(0, false)", x -> x.valid(0, false)),
        call("drop()", StageLayer::drop),
        call("open(0)", x -> x.open(0)),
        call("apply(1, 1, 0)", x -> x.apply(1, 1, 0)),
    };

    private static String sentence = "";
    private static int checked = 0;
    private static int wrong = 0;

    private interface Use {
        int on(StageLayer x);
    }

    private interface Make {
        StageLayer make();
    }

    private static final class Call {
        final String name;
        final Use use;

        Call(String name, Use use) {
            this.name = name;
            this.use = use;
        }
    }

    public static void main(String[] args) {
        terms();
        promise1();
        promise2();
        promise3();
        promise4();
        promise5();
        promise6();
        promise7();
        promise8();
        promise9();
        promise10();
        promise11();
        promise12();
        promise13();
        promise14();
        promise15();
        System.out.println(wrong == 0
                ? "all " + checked + " answers are as due"
                : wrong + " of " + checked + " answers are not as due");
        if (wrong != 0) {
            System.exit(1);
        }
    }

    private static void terms() {
        fiveHundredAndTwelveCalls();
        placesThatAreWrittenAndRead();
        placesThatAreReadAndWritten();
        instances();
        everyKindReadsAndWrites();
        arrays();
        stepsNumbered();
        branchesOfAnIf();
        whatIsDropped();
        sameArray();
        eightStepsInAStage();
        memoryAndWiresOfATable();
        memoryAndWiresOfAStage();
        firstStageWithRoom();
    }

    private static void promise1() {
        noSteps();
    }

    private static void promise2() {
        clearOfEmpty();
        clearOfFull();
        clearOfOpenIfs();
        clearOfLaid();
        clearOfHomeless();
    }

    private static void promise3() {
        assignPlace();
        assignBits();
        assignFull();
        readPlacesByAssign();
        readingOfNone();
    }

    private static void promise4() {
        loadPlaceArrayAndBits();
        loadFull();
    }

    private static void promise5() {
        storeArrayAndBits();
        storeFull();
    }

    private static void promise6() {
        validInstance();
        validFull();
    }

    private static void promise7() {
        dropFull();
    }

    private static void promise8() {
        openBits();
        openFull();
        eightAreOpen();
    }

    private static void promise9() {
        closeLastOpened();
        closeNone();
    }

    private static void promise10() {
        applyPlaceAndBits();
        applyRoom();
        applyKeys();
        applyFull();
        eightTables();
    }

    private static void promise11() {
        layAtLeastOne();
        layAtMostSoMany();
        layFindsNone();
        layArguments();
        stepsBehindLay();
    }

    private static void promise12() {
        homelessOfTheLatestLay();
        homelessSinceStepsCame();
        homelessWithout();
    }

    private static void promise13() {
        stageOfNoStep();
        stageOfNothingLaid();
    }

    private static void promise14() {
        usedOfNothingLaid();
        usedOfNoStage();
        usedOfAnotherWhat();
    }

    private static void promise15() {
        countEmptyAndFull();
        countOfAnotherWhat();
    }

    // ---- how it is told and looked at

    private static void sentence(String text) {
        sentence = text;
    }

    private static Call call(String name, Use use) {
        return new Call(name, use);
    }

    private static void same(String what, String got, String want) {
        checked++;
        if (!got.equals(want)) {
            wrong++;
            System.out.println("'" + sentence + "': " + what + " answered " + got
                    + ", due is " + want);
        }
    }

    private static void due(String what, int got, int want) {
        same(what, String.valueOf(got), String.valueOf(want));
    }

    private static String answer(StageLayer x, Use use) {
        try {
            return String.valueOf(use.on(x));
        } catch (RuntimeException e) {
            return "throws." + e.getClass().getSimpleName();
        }
    }

    private static void allowed(String what, Make made, Use use, int want) {
        same(what, answer(made.make(), use), String.valueOf(want));
    }

    /** The call throws this, and an object that had it goes on as one that never had it. */
    private static void refused(String what, Make made, Use use, String want) {
        StageLayer x = made.make();
        same(what, answer(x, use), want);
        same(what + ", and what came behind it", goOn(x), goOn(made.make()));
    }

    /** All that can be seen of the object, and of what it answers when it is used on. */
    private static String goOn(StageLayer x) {
        StringBuilder told = new StringBuilder(seen(x));
        for (int n = 0; n < 9; n++) {
            told.append(" close ").append(answer(x, StageLayer::close));
        }
        for (int n = 0; n < 9; n++) {
            told.append(" apply ").append(answer(x, o -> o.apply(3, 2, 5)));
        }
        told.append(" left ").append(placesLeft(x));
        told.append(" lay ").append(answer(x, o -> o.lay(12, 100, 100)));
        return told.append(seen(x)).toString();
    }

    private static String seen(StageLayer x) {
        StringBuilder told = new StringBuilder();
        told.append(x.count(0)).append(' ').append(x.count(1)).append(' ').append(x.count(2));
        told.append(" homeless ").append(x.homeless()).append(" stages");
        for (int step = 0; step <= x.count(0); step++) {
            told.append(' ').append(x.stage(step));
        }
        told.append(" used");
        for (int stage = 0; stage < 13; stage++) {
            for (int what = 0; what < 3; what++) {
                told.append(' ').append(x.used(stage, what));
            }
        }
        return told.toString();
    }

    /** How many places may still be read, as far as the steps that are left can tell. */
    private static int placesLeft(StageLayer x) {
        int left = 0;
        for (int places = 28; places >= 1 && x.count(0) < 48; ) {
            int reads = (int) ((1L << places) - 1);
            if (answer(x, o -> o.assign(6, reads)).equals(STATE)) {
                places /= 2;
            } else {
                left += places;
            }
        }
        return left;
    }

    private static StageLayer empty() {
        return new StageLayer();
    }

    /** With so many steps that touch nothing and are in no stage's way but for their number. */
    private static StageLayer withSteps(int steps) {
        StageLayer x = new StageLayer();
        addSteps(x, steps);
        return x;
    }

    private static void addSteps(StageLayer x, int steps) {
        for (int n = 0; n < steps; n++) {
            x.open(0);
            x.close();
        }
    }

    private static StageLayer withPlacesRead(int places) {
        StageLayer x = new StageLayer();
        readPlaces(x, places);
        return x;
    }

    private static void readPlaces(StageLayer x, int places) {
        for (int left = places; left > 0; left -= 28) {
            x.assign(0, (int) ((1L << Math.min(left, 28)) - 1));
        }
    }

    private static StageLayer withTables(int tables) {
        StageLayer x = new StageLayer();
        for (int n = 0; n < tables; n++) {
            x.apply(1 << 15, 1, n);
        }
        return x;
    }

    private static StageLayer withOpenIfs(int ifs) {
        StageLayer x = new StageLayer();
        for (int n = 0; n < ifs; n++) {
            x.open(0);
        }
        return x;
    }

    /** A chain: each step is a stage behind the one before it. */
    private static StageLayer withChain(int steps) {
        StageLayer x = new StageLayer();
        addChain(x, steps);
        return x;
    }

    private static void addChain(StageLayer x, int steps) {
        for (int n = 0; n < steps; n++) {
            x.assign(0, 0);
        }
    }

    private static StageLayer laid() {
        StageLayer x = withChain(3);
        x.apply(3 << 10, 2, 4);
        layWide(x);
        return x;
    }

    private static StageLayer withHomeless() {
        StageLayer x = withChain(3);
        x.lay(2, 0, 0);
        return x;
    }

    private static int layWide(StageLayer x) {
        return x.lay(12, MAX, MAX);
    }

    private static int field(int k) {
        return 1 << (16 + k);
    }

    /** Where the last step is laid. */
    private static int lastStage(StageLayer x) {
        layWide(x);
        return x.stage(x.count(0) - 1);
    }

    /** In every state in which it is worth a look, the call is refused in this way. */
    private static void refusedAlways(String what, Use use, String want) {
        refused(what + " on a new object", StageLayerEdgesTest::empty, use, want);
        refused(what + " on what is laid", StageLayerEdgesTest::laid, use, want);
        refused(what + " with a homeless step", StageLayerEdgesTest::withHomeless, use, want);
    }

    /** The call reads so many places: it is allowed up to 800, refused from 801. */
    private static void reads(String what, int places, Use use) {
        allowed(what + " as the 800th place",
                () -> withPlacesRead(800 - places), use, stepsOf(800 - places));
        refused(what + " as the 801st place", () -> withPlacesRead(801 - places), use, STATE);
        refused(what + " behind 800 places", () -> withPlacesRead(800), use, STATE);
        StageLayer x = withPlacesRead(800 - places - 1);
        use.on(x);
        due(what + " and one more", x.assign(1, 1), stepsOf(800 - places - 1) + 1);
        refused(what + " and two more", () -> {
            StageLayer y = withPlacesRead(800 - places - 1);
            use.on(y);
            return y;
        }, o -> o.assign(1, 3), STATE);
    }

    /** The call reads no place and has no reading of none: 800 may be read beside it. */
    private static void readsNothing(String what, Use use) {
        allowed(what + " behind 800 places", () -> withPlacesRead(800), use, 29);
        StageLayer x = new StageLayer();
        use.on(x);
        readPlaces(x, 800);
        due("800 places behind " + what, x.count(0), 30);
        same("801 places behind " + what, answer(x, o -> o.assign(0, 1)), STATE);
    }

    /** How many steps withPlacesRead() takes. */
    private static int stepsOf(int places) {
        return (places + 27) / 28;
    }

    /** The call is a step: the 48th is allowed, a 49th is not. */
    private static void isAtMostThe48th(String what, Use use) {
        allowed(what + " as the first step", StageLayerEdgesTest::empty, use, 0);
        allowed(what + " as the 48th step", () -> withSteps(47), use, 47);
        refused(what + " as the 49th step", () -> withSteps(48), use, STATE);
        refused(what + " as the 49th step, laid", () -> {
            StageLayer x = withSteps(48);
            layWide(x);
            return x;
        }, use, STATE);
    }

    // ---- what it is, and the terms

    private static void fiveHundredAndTwelveCalls() {
        sentence("An object is used for at most 512 calls after it has been made");
        StageLayer x = new StageLayer();
        for (int n = 0; n < 255; n++) {
            x.assign(0, ALL);
            x.clear();
        }
        due("the 511th call", x.assign(0, ALL), 0);
        due("the 512th call", x.lay(1, 0, 0), 1);

        StageLayer full = new StageLayer();
        for (int n = 0; n < 48; n++) {
            full.drop();
        }
        for (int n = 48; n < 511; n++) {
            same("call " + n, answer(full, StageLayer::drop), STATE);
        }
        due("the 512th call, full", full.count(0), 48);
    }

    private static void placesThatAreWrittenAndRead() {
        sentence("Step j must be in a later stage than an earlier step i "
                + "that writes what j reads or writes");
        for (int written = 0; written < 28; written++) {
            for (int place = 0; place < 28; place++) {
                int later = written == place ? 1 : 0;
                StageLayer x = new StageLayer();
                x.assign(written, 0);
                x.open(1 << place);
                due("place " + written + " written, then read " + place, lastStage(x), later);
                x.clear();
                x.assign(written, 0);
                x.assign(place, 0);
                due("place " + written + " written, then written " + place, lastStage(x), later);
                x.clear();
                x.assign(written, 0);
                x.open(ALL & ~(1 << place));
                due("place " + written + " written, then read all but " + place,
                        lastStage(x), 1 - later);
            }
        }
    }

    private static void placesThatAreReadAndWritten() {
        sentence("not in an earlier one than i that reads what j writes");
        for (int read = 1; read < 28; read++) {
            for (int written = 1; written < 28; written++) {
                StageLayer x = new StageLayer();
                x.assign(0, 0);
                x.open(1 | 1 << read);
                x.close();
                x.assign(written, 0);
                due("place " + read + " read in stage 1, then written " + written,
                        lastStage(x), read == written ? 1 : 0);
            }
        }
        StageLayer x = new StageLayer();
        x.open(1 << 5);
        x.close();
        x.open(1 << 5);
        x.close();
        due("two that read the same", lastStage(x), 0);
    }

    private static void instances() {
        sentence("INSTANCES 0 .. 11: a field's reading or writing reads its instance's validity; "
                + "ADD and TAKE write validity and field");
        for (int first = 0; first < 12; first++) {
            for (int second = 0; second < 12; second++) {
                instancePair(first, second, true);
                instancePair(first, second, false);
            }
        }
        for (int k = 0; k < 12; k++) {
            for (int meta = 0; meta < 16; meta++) {
                StageLayer x = new StageLayer();
                x.valid(k, true);
                x.assign(meta, 1 << meta);
                due("ADD of " + k + " and meta " + meta, lastStage(x), 0);
            }
        }
    }

    private static void instancePair(int first, int second, boolean add) {
        String what = (add ? "ADD of " : "TAKE of ") + first + ", then ";
        int later = first == second ? 1 : 0;
        StageLayer x = new StageLayer();
        x.valid(first, add);
        x.open(field(second));
        due(what + "a reading of field " + second, lastStage(x), later);
        x.clear();
        x.valid(first, add);
        x.assign(16 + second, 0);
        due(what + "a writing of field " + second, lastStage(x), later);
        x.clear();
        x.valid(first, add);
        x.valid(second, !add);
        due(what + "the other of " + second, lastStage(x), later);
        x.clear();
        x.assign(16 + second, 0);
        x.valid(first, add);
        due(what + "behind a writing of field " + second, lastStage(x), later);
        x.clear();
        x.assign(0, 0);
        x.open(1 | field(second));
        x.close();
        x.valid(first, add);
        due(what + "behind a reading of field " + second + " in stage 1", lastStage(x), later);
    }

    private static void everyKindReadsAndWrites() {
        sentence("A step READS and WRITES metas, fields, validities; an APPLY reads its keys, "
                + "does what one ASSIGN does (reads none)");
        for (int k = 0; k < 28; k++) {
            int place = k;
            int other = k == 27 ? 26 : 27;
            int bit = 1 << place;
            kindReads("assign", place, x -> x.assign(other, bit));
            kindReads("load", place, x -> x.load(other, 1, bit));
            kindReads("store's index", place, x -> x.store(1, bit, 0));
            kindReads("store's word", place, x -> x.store(1, 0, bit));
            kindReads("open", place, x -> x.open(bit));
            kindReads("apply", place, x -> x.apply(bit, 1, other));
            kindWrites("assign", place, x -> x.assign(place, 0));
            kindWrites("load", place, x -> x.load(place, 1, 0));
            kindWrites("apply", place, x -> x.apply(1 << other, 1, place));
        }
        StageLayer x = new StageLayer();
        x.store(1, ALL, ALL);
        x.open(ALL);
        due("a STORE writes no place", lastStage(x), 0);
        x.clear();
        x.open(ALL);
        x.close();
        x.open(ALL);
        due("an IF writes no place", lastStage(x), 0);
    }

    private static void kindReads(String kind, int place, Use use) {
        StageLayer x = new StageLayer();
        x.assign(place, 0);
        use.on(x);
        due(kind + " reads place " + place, lastStage(x), 1);
        if (place < 16) {
            return;
        }
        x.clear();
        x.valid(place - 16, false);
        use.on(x);
        due(kind + " reads the validity of " + place, lastStage(x), 1);
    }

    private static void kindWrites(String kind, int place, Use use) {
        StageLayer x = new StageLayer();
        use.on(x);
        x.open(1 << place);
        due(kind + " writes place " + place, lastStage(x), 1);
        x.clear();
        use.on(x);
        x.open(ALL & ~(1 << place));
        due(kind + " writes no place but " + place, lastStage(x), 0);
    }

    private static void arrays() {
        sentence("ARRAYS 0 .. 7: in the same as i that has an array with it (LOAD, STORE)");
        for (int first = 0; first < 8; first++) {
            for (int second = 0; second < 8; second++) {
                String what = "array " + first + " in stage 1, then " + second;
                int same = first == second ? 1 : 0;
                StageLayer x = new StageLayer();
                x.assign(0, 0);
                x.load(1, first, 1);
                x.store(second, 0, 0);
                due(what + " (LOAD, STORE)", lastStage(x), same);
                x.clear();
                x.assign(0, 0);
                x.store(first, 0, 1);
                x.load(2, second, 0);
                due(what + " (STORE, LOAD)", lastStage(x), same);
            }
        }
        StageLayer x = new StageLayer();
        x.assign(0, 0);
        x.load(1, 0, 1);
        x.assign(2, 0);
        due("an ASSIGN has no array, not the first either", lastStage(x), 0);
    }

    private static void stepsNumbered() {
        sentence("STEPS, at most 48, numbered as they come");
        for (Call kind : ONE_OF_EACH_KIND) {
            isAtMostThe48th(kind.name, kind.use);
        }
        StageLayer x = new StageLayer();
        for (int n = 0; n < 48; n++) {
            Call kind = ONE_OF_EACH_KIND[n % ONE_OF_EACH_KIND.length];
            due(kind.name + " as step " + n, kind.use.on(x), n);
        }
        due("steps", x.count(0), 48);
    }

    private static void branchesOfAnIf() {
        sentence("an IF, whose branches' steps are those that come until it is ended: "
                + "in a later stage than an IF in which j is");
        for (Call kind : ONE_OF_EACH_KIND) {
            StageLayer x = new StageLayer();
            x.open(1 << 9);
            kind.use.on(x);
            due(kind.name + " in an IF", lastStage(x), 1);
            x.clear();
            x.open(1 << 9);
            x.close();
            kind.use.on(x);
            due(kind.name + " behind an IF", lastStage(x), 0);
        }
        StageLayer x = new StageLayer();
        x.assign(1, 0);
        x.open(0);
        x.assign(2, 0);
        x.open(0);
        x.assign(3, 0);
        x.close();
        x.assign(4, 0);
        x.close();
        x.assign(5, 0);
        due("an IF in an IF", layWide(x), 3);
        int[] want = {0, 0, 1, 1, 2, 1, 0};
        for (int step = 0; step < want.length; step++) {
            due("an IF in an IF: stage(" + step + ")", x.stage(step), want[step]);
        }

        StageLayer deep = withOpenIfs(8);
        deep.drop();
        due("a step in 8 IFs", lastStage(deep), 8);
        for (int n = 7; n >= 0; n--) {
            deep.close();
            deep.valid(n, true);
            due("a step in " + n + " IFs", lastStage(deep), n);
        }
    }

    private static void whatIsDropped() {
        sentence("A step READS and WRITES what is DROPPED");
        StageLayer x = new StageLayer();
        x.drop();
        x.drop();
        due("two DROPs", lastStage(x), 1);
        x.clear();
        x.drop();
        x.open(ALL);
        due("what is dropped is no place that is read", lastStage(x), 0);
        for (int k = 0; k < 12; k++) {
            x.clear();
            x.drop();
            x.valid(k, true);
            due("what is dropped is no instance, " + k, lastStage(x), 0);
        }
        for (int place = 0; place < 28; place++) {
            x = withDrops(2);
            x.assign(place, 0);
            due("a DROP in stage 1 reads no place, " + place, lastStage(x), 0);
        }
        allowed("12 DROPs", () -> withDrops(12), StageLayerEdgesTest::layWide, 12);
        allowed("13 DROPs", () -> withDrops(13), StageLayerEdgesTest::layWide, NONE);
    }

    private static StageLayer withDrops(int drops) {
        StageLayer x = new StageLayer();
        for (int n = 0; n < drops; n++) {
            x.drop();
        }
        return x;
    }

    private static void sameArray() {
        sentence("and in the same as i that has an array with it: "
                + "none is left where that stage is too early or full");
        StageLayer x = new StageLayer();
        x.store(7, 0, 0);
        x.assign(0, 0);
        x.store(7, 1, 0);
        due("the array's stage is too early by 1", layWide(x), NONE);
        due("too early: homeless", x.homeless(), 2);
        x.clear();
        x.assign(0, 0);
        x.store(7, 1, 0);
        x.store(7, 1, 0);
        due("the array's stage is just late enough", layWide(x), 2);
        due("late enough", x.stage(2), 1);
        x.clear();
        x.assign(0, 0);
        x.assign(1, 1);
        x.store(7, 2, 0);
        x.store(7, 1, 0);
        x.store(7, 0, 0);
        due("the array's stage is later than need be", layWide(x), 3);
        due("later than need be", x.stage(4), 2);
        x.clear();
        for (int n = 0; n < 8; n++) {
            x.store(0, 0, 0);
        }
        due("8 with an array", layWide(x), 1);
        x.store(0, 0, 0);
        due("9 with an array", layWide(x), NONE);
        due("9 with an array: homeless", x.homeless(), 8);
        x.clear();
        x.load(0, 3, 0);
        x.load(0, 3, 0);
        due("two LOADs from an array to one place", layWide(x), NONE);
        due("two LOADs: homeless", x.homeless(), 1);
        x.clear();
        x.load(0, 3, 2);
        x.load(1, 3, 0);
        due("a LOAD to what the LOAD before it reads", layWide(x), 1);
        x.clear();
        x.store(3, 0, 0);
        x.open(0);
        x.store(3, 0, 0);
        due("an array in front of an IF and in it", layWide(x), NONE);
        due("in front of an IF and in it: homeless", x.homeless(), 2);
    }

    private static void eightStepsInAStage() {
        sentence("where with it there are at most 8 steps");
        for (Call kind : ONE_OF_EACH_KIND) {
            for (int before = 6; before <= 9; before++) {
                StageLayer x = withSteps(before);
                kind.use.on(x);
                int stage = before < 8 ? 0 : 1;
                due(kind.name + " behind " + before, lastStage(x), stage);
                due(kind.name + " behind " + before + ": used",
                        x.used(0, 0), Math.min(8, before + 1));
                due(kind.name + " behind " + before + " in one stage",
                        x.lay(1, MAX, MAX), before < 8 ? 1 : NONE);
            }
        }
        allowed("48 steps in 6 stages", () -> withSteps(48), x -> x.lay(6, 0, 0), 6);
        allowed("48 steps in 5 stages", () -> withSteps(48), x -> x.lay(5, 0, 0), NONE);
        StageLayer x = withSteps(48);
        x.lay(5, 0, 0);
        due("48 steps in 5 stages: homeless", x.homeless(), 40);
        x.lay(6, 0, 0);
        for (int stage = 0; stage < 6; stage++) {
            due("48 steps: used(" + stage + ", 0)", x.used(stage, 0), 8);
        }
    }

    private static void memoryAndWiresOfATable() {
        sentence("needs memory (room times the sum of 16 for each key and 8) "
                + "and wires (8 for each key)");
        int[] keys = {1 << 27, 1 << 15 | 1 << 16, 7 << 13, 15 << 24};
        int[] perEntry = {24, 40, 56, 72};
        int[] wires = {8, 16, 24, 32};
        for (int n = 0; n < 4; n++) {
            for (int room = 1; room <= 32; room++) {
                StageLayer x = new StageLayer();
                x.apply(keys[n], room, 0);
                int memory = room * perEntry[n];
                String what = (n + 1) + " keys, room " + room;
                due(what + ": just enough", x.lay(1, memory, wires[n]), 1);
                due(what + ": memory", x.used(0, 1), memory);
                due(what + ": wires", x.used(0, 2), wires[n]);
                due(what + ": memory short by 1", x.lay(12, memory - 1, wires[n]), NONE);
                due(what + ": homeless", x.homeless(), 0);
                due(what + ": wires short by 1", x.lay(12, memory, wires[n] - 1), NONE);
                due(what + ": no memory", x.lay(12, 0, MAX), NONE);
                due(what + ": no wires", x.lay(12, MAX, 0), NONE);
            }
        }
    }

    private static void memoryAndWiresOfAStage() {
        sentence("and no more memory and wires than a stage has");
        StageLayer x = new StageLayer();
        for (int n = 0; n < 8; n++) {
            x.apply(15 << 20, 32, n);
        }
        due("8 of the largest tables in a stage", x.lay(1, 18432, 256), 1);
        due("8 of them: memory", x.used(0, 1), 18432);
        due("8 of them: wires", x.used(0, 2), 256);
        due("8 of them: memory short by 1", x.lay(12, 18431, 256), 2);
        due("memory short by 1: the last", x.stage(7), 1);
        due("memory short by 1: memory of the first", x.used(0, 1), 7 * 2304);
        due("memory short by 1: memory of the second", x.used(1, 1), 2304);
        due("8 of them: wires short by 1", x.lay(12, 18432, 255), 2);
        due("wires short by 1: the last", x.stage(7), 1);
        due("wires short by 1: wires of the first", x.used(0, 2), 7 * 32);
        due("wires short by 1: wires of the second", x.used(1, 2), 32);
        due("room for one in each stage", x.lay(8, 2304, 32), 8);
        due("room for one in each stage, but one", x.lay(7, 2304, 32), NONE);
        due("but one: homeless", x.homeless(), 7);
        due("the most memory and wires that can be told", x.lay(1, MAX, MAX), 1);

        for (Call kind : ONE_OF_EACH_KIND) {
            if (kind.name.startsWith("apply")) {
                continue;
            }
            StageLayer other = new StageLayer();
            kind.use.on(other);
            due(kind.name + " needs neither", other.lay(1, 0, 0), 1);
            due(kind.name + ": memory", other.used(0, 1), 0);
            due(kind.name + ": wires", other.used(0, 2), 0);
        }
    }

    private static void firstStageWithRoom() {
        sentence("In order, each step comes to the first stage where it may be");
        StageLayer x = new StageLayer();
        x.apply(1, 2, 5);
        x.apply(3, 3, 6);
        x.apply(1, 3, 7);
        x.assign(8, 0);
        due("a later one fills the gap", x.lay(12, 120, 16), 2);
        int[] want = {0, 1, 0, 0};
        for (int step = 0; step < want.length; step++) {
            due("a later one fills the gap: stage(" + step + ")", x.stage(step), want[step]);
        }
        due("the gap is full", x.used(0, 1), 120);

        StageLayer y = withSteps(8);
        y.assign(0, 0);
        y.assign(1, 1);
        due("what waits for a step waits for where it came", layWide(y), 3);
        due("the first waited for room", y.stage(8), 1);
        due("the second waited for the first", y.stage(9), 2);
    }

    // ---- a new object, and clear

    private static void isEmpty(String what, StageLayer x) {
        due(what + ": steps", x.count(0), 0);
        due(what + ": tables", x.count(1), 0);
        due(what + ": open IFs", x.count(2), 0);
        due(what + ": homeless", x.homeless(), NONE);
        for (int step = -1; step <= 48; step++) {
            due(what + ": stage(" + step + ")", x.stage(step), NONE);
        }
        for (int stage = -1; stage <= 12; stage++) {
            for (int kind = 0; kind < 3; kind++) {
                due(what + ": used(" + stage + ", " + kind + ")", x.used(stage, kind), NONE);
            }
        }
        same(what + ": close()", answer(x, StageLayer::close), STATE);
        due(what + ": lay", x.lay(1, 0, 0), 1);
        due(what + ": the first step", x.store(0, 0, 0), 0);
        x.clear();
    }

    /** As a new object is: it takes the same from there on. */
    private static void clears(String what, Make made) {
        StageLayer x = made.make();
        x.clear();
        isEmpty(what, x);
        StageLayer y = made.make();
        y.clear();
        same(what + ": what comes behind clear()", goOn(y), goOn(empty()));
        StageLayer z = made.make();
        z.clear();
        readPlaces(z, 800);
        due(what + ": 800 places again", z.count(0), 29);
    }

    private static void noSteps() {
        sentence("StageLayer(): No steps.");
        due("the constant NONE", StageLayer.NONE, -1);
        isEmpty("a new object", new StageLayer());
        StageLayer x = laid();
        isEmpty("a new object beside another", new StageLayer());
        due("the other one keeps its steps", x.count(0), 4);
        due("the other one keeps its stages", x.stage(2), 2);
    }

    private static void clearOfEmpty() {
        sentence("clear(): No steps");
        clears("a new object", StageLayerEdgesTest::empty);
        clears("a step", () -> withChain(1));
    }

    private static void clearOfFull() {
        sentence("clear(): No steps");
        clears("48 steps", () -> withSteps(48));
        clears("800 places", () -> withPlacesRead(800));
        clears("8 tables", () -> withTables(8));
    }

    private static void clearOfOpenIfs() {
        sentence("clear(): no IF is open");
        clears("an open IF", () -> withOpenIfs(1));
        clears("8 open IFs", () -> withOpenIfs(8));
        StageLayer x = withOpenIfs(8);
        x.clear();
        x.assign(0, 0);
        due("what comes then is in no IF", lastStage(x), 0);
    }

    private static void clearOfLaid() {
        sentence("clear(): nothing is laid");
        clears("what is laid", StageLayerEdgesTest::laid);
        clears("no steps, laid", () -> {
            StageLayer x = new StageLayer();
            x.lay(1, 0, 0);
            return x;
        });
        StageLayer x = laid();
        x.clear();
        addChain(x, 4);
        due("the steps that come then are not laid", x.stage(0), NONE);
        due("they need no memory", x.lay(4, 0, 0), 4);
    }

    private static void clearOfHomeless() {
        sentence("clear(): nothing is laid (and no step is homeless)");
        clears("a homeless step", StageLayerEdgesTest::withHomeless);
    }

    // ---- assign

    private static void places(String what, PlaceUse use) {
        allowed(what + " place 0", StageLayerEdgesTest::empty, x -> use.on(x, 0), 0);
        allowed(what + " place 15", StageLayerEdgesTest::empty, x -> use.on(x, 15), 0);
        allowed(what + " place 16", StageLayerEdgesTest::empty, x -> use.on(x, 16), 0);
        allowed(what + " place 27", StageLayerEdgesTest::empty, x -> use.on(x, 27), 0);
        refusedNumbers(what + " place ", use, 28);
    }

    private static void arrayNumbers(String what, PlaceUse use) {
        allowed(what + " array 0", StageLayerEdgesTest::empty, x -> use.on(x, 0), 0);
        allowed(what + " array 7", StageLayerEdgesTest::empty, x -> use.on(x, 7), 0);
        refusedNumbers(what + " array ", use, 8);
    }

    private static void refusedNumbers(String what, PlaceUse use, int first) {
        refusedAlways(what + "-1", x -> use.on(x, -1), OUTSIDE);
        refusedAlways(what + first, x -> use.on(x, first), OUTSIDE);
        refusedAlways(what + MIN, x -> use.on(x, MIN), OUTSIDE);
        refusedAlways(what + MAX, x -> use.on(x, MAX), OUTSIDE);
        for (int number : WRAPPING) {
            refusedAlways(what + number, x -> use.on(x, number), OUTSIDE);
        }
    }

    private static void bits(String what, PlaceUse use) {
        for (int k = 0; k < 28; k++) {
            int bit = 1 << k;
            allowed(what + " bit " + k, StageLayerEdgesTest::empty, x -> use.on(x, bit), 0);
        }
        for (int bits : NO_BITS) {
            refusedAlways(what + " bits " + Integer.toHexString(bits),
                    x -> use.on(x, bits), OUTSIDE);
        }
    }

    private static void noneAndAllBits(String what, PlaceUse use) {
        allowed(what + " no bits", StageLayerEdgesTest::empty, x -> use.on(x, 0), 0);
        allowed(what + " all bits", StageLayerEdgesTest::empty, x -> use.on(x, ALL), 0);
    }

    private interface PlaceUse {
        int on(StageLayer x, int number);
    }

    private static void assignPlace() {
        sentence("assign(): ASSIGN to a place, 0 .. 27; IndexOutOfBoundsException: no such place");
        places("assign: ", (x, to) -> x.assign(to, 0));
    }

    private static void assignBits() {
        sentence("assign(): IndexOutOfBoundsException: reads has bits that are none");
        bits("assign:", (x, reads) -> x.assign(0, reads));
        noneAndAllBits("assign:", (x, reads) -> x.assign(0, reads));
    }

    private static void assignFull() {
        sentence("assign(): IllegalStateException: there are 48 steps");
        isAtMostThe48th("assign(27, 3)", x -> x.assign(27, 3));
    }

    private static void readPlacesByAssign() {
        sentence("assign(): IllegalStateException: with this one more than 800 places were read");
        for (int places = 1; places <= 28; places++) {
            int reads = ALL >>> (28 - places);
            reads("assign of " + places + " places", places, x -> x.assign(1, reads));
        }
        StageLayer x = withPlacesRead(800);
        due("800 places: steps", x.count(0), 29);
        due("800 places: what reads none and writes no place may come", x.drop(), 29);
    }

    private static void readingOfNone() {
        sentence("(a reading of none, and an APPLY's ASSIGN, count as one more)");
        reads("assign of none", 1, x -> x.assign(1, 0));
        reads("load of none", 1, x -> x.load(1, 0, 0));
        reads("open of none", 1, x -> x.open(0));
        reads("store, index and word of none", 2, x -> x.store(0, 0, 0));
        reads("apply of a key", 2, x -> x.apply(1, 1, 1));
    }

    // ---- load, store

    private static void loadPlaceArrayAndBits() {
        sentence("load(): IndexOutOfBoundsException: no such place or array, "
                + "or bits that are none");
        places("load: ", (x, to) -> x.load(to, 0, 0));
        arrayNumbers("load: ", (x, array) -> x.load(0, array, 0));
        bits("load:", (x, reads) -> x.load(0, 0, reads));
        noneAndAllBits("load:", (x, reads) -> x.load(0, 0, reads));
    }

    private static void loadFull() {
        sentence("load(): IllegalStateException: as for assign()");
        isAtMostThe48th("load(27, 7, 3)", x -> x.load(27, 7, 3));
        for (int places = 1; places <= 28; places++) {
            int reads = ALL >>> (28 - places);
            reads("load of " + places + " places", places, x -> x.load(1, 0, reads));
        }
    }

    private static void storeArrayAndBits() {
        sentence("store(): IndexOutOfBoundsException: no such array, or bits that are none");
        arrayNumbers("store: ", (x, array) -> x.store(array, 0, 0));
        bits("store: index", (x, index) -> x.store(0, index, 0));
        noneAndAllBits("store: index", (x, index) -> x.store(0, index, 0));
        bits("store: word", (x, word) -> x.store(0, 0, word));
        noneAndAllBits("store: word", (x, word) -> x.store(0, 0, word));
        for (int bits : NO_BITS) {
            refusedAlways("store: both " + bits, x -> x.store(0, bits, bits), OUTSIDE);
        }
    }

    private static void storeFull() {
        sentence("store(): IllegalStateException: as for assign()");
        isAtMostThe48th("store(7, 3, 12)", x -> x.store(7, 3, 12));
        reads("store of 3 and 2 places", 5, x -> x.store(0, 7, 24));
        reads("store of the same place twice", 2, x -> x.store(0, 1, 1));
        reads("store of 4 and none", 5, x -> x.store(0, 15, 0));
        reads("store of none and 4", 5, x -> x.store(0, 0, 15));
        reads("store of all and all", 56, x -> x.store(0, ALL, ALL));
    }

    // ---- valid, drop

    private static void validInstance() {
        sentence("valid(): IndexOutOfBoundsException: no such instance");
        for (boolean add : new boolean[] {true, false}) {
            String what = add ? "ADD of " : "TAKE of ";
            allowed(what + 0, StageLayerEdgesTest::empty, x -> x.valid(0, add), 0);
            allowed(what + 11, StageLayerEdgesTest::empty, x -> x.valid(11, add), 0);
            refusedNumbers(what, (x, instance) -> x.valid(instance, add), 12);
            refusedAlways(what + 16, x -> x.valid(16, add), OUTSIDE);
            refusedAlways(what + 27, x -> x.valid(27, add), OUTSIDE);
        }
    }

    private static void validFull() {
        sentence("valid(): IllegalStateException: as for assign()");
        isAtMostThe48th("valid(11, true)", x -> x.valid(11, true));
        isAtMostThe48th("valid(11, false)", x -> x.valid(11, false));
        readsNothing("ADD", x -> x.valid(0, true));
        readsNothing("TAKE", x -> x.valid(0, false));
    }

    private static void dropFull() {
        sentence("drop(): IllegalStateException: as for assign()");
        isAtMostThe48th("drop()", StageLayer::drop);
        readsNothing("DROP", StageLayer::drop);
    }

    // ---- open, close

    private static void openBits() {
        sentence("open(): IndexOutOfBoundsException: bits that are none");
        bits("open:", (x, reads) -> x.open(reads));
        noneAndAllBits("open:", (x, reads) -> x.open(reads));
    }

    private static void openFull() {
        sentence("open(): IllegalStateException: as for assign()");
        isAtMostThe48th("open(3)", x -> x.open(3));
        for (int places = 1; places <= 28; places++) {
            int reads = ALL >>> (28 - places);
            reads("open of " + places + " places", places, x -> x.open(reads));
        }
    }

    private static void eightAreOpen() {
        sentence("open(): IllegalStateException: 8 are open");
        allowed("the first", StageLayerEdgesTest::empty, x -> x.open(1), 0);
        allowed("the eighth", () -> withOpenIfs(7), x -> x.open(1), 7);
        refused("the ninth", () -> withOpenIfs(8), x -> x.open(1), STATE);
        refused("the ninth, laid", () -> {
            StageLayer x = withOpenIfs(8);
            layWide(x);
            return x;
        }, x -> x.open(1), STATE);
        StageLayer x = withOpenIfs(8);
        due("8 are open", x.count(2), 8);
        due("one is ended", x.close(), 7);
        due("an eighth again", x.open(1), 8);
        same("a ninth again", answer(x, o -> o.open(1)), STATE);
        due("other steps may come while 8 are open", x.assign(0, 0), 9);
        for (int n = 0; n < 8; n++) {
            x.close();
        }
        due("all 8 are ended", x.count(2), 0);
        for (int n = 0; n < 8; n++) {
            due("8 more", x.open(0), 10 + n);
        }
        same("and a ninth", answer(x, o -> o.open(0)), STATE);
    }

    private static void closeLastOpened() {
        sentence("close(): The IF that was opened last of those that are open is ended: that step");
        StageLayer x = withOpenIfs(8);
        for (int n = 7; n >= 0; n--) {
            due("of " + (n + 1) + " open ones", x.close(), n);
            due("are left", x.count(2), n);
        }
        due("IFs stay steps", x.count(0), 8);
        StageLayer y = new StageLayer();
        y.drop();
        y.open(0);
        y.drop();
        y.open(0);
        y.drop();
        due("the inner one", y.close(), 3);
        y.open(0);
        due("the next inner one", y.close(), 5);
        due("the outer one", y.close(), 1);
        StageLayer last = withSteps(47);
        last.open(0);
        due("the 48th step", last.close(), 47);
        StageLayer full = withOpenIfs(1);
        addSteps(full, 47);
        due("an IF is ended behind 48 steps", full.close(), 0);
    }

    private static void closeNone() {
        sentence("close(): IllegalStateException: none is open");
        refusedAlways("close()", StageLayer::close, STATE);
        refused("close() behind the last", () -> withSteps(1), StageLayer::close, STATE);
        refused("close() behind 48", () -> withSteps(48), StageLayer::close, STATE);
        StageLayer x = withOpenIfs(8);
        for (int n = 0; n < 8; n++) {
            x.close();
        }
        same("a ninth close()", answer(x, StageLayer::close), STATE);
        due("IFs that are open", x.count(2), 0);
        due("the next one", x.open(0), 8);
        due("is ended", x.close(), 8);
    }

    // ---- apply

    private static void applyPlaceAndBits() {
        sentence("apply(): IndexOutOfBoundsException: no such place, or bits that are none");
        places("apply: ", (x, to) -> x.apply(1, 1, to));
        bits("apply:", (x, keys) -> x.apply(keys, 1, 0));
    }

    private static void applyRoom() {
        sentence("apply(): room for so many entries, 1 .. 32; IllegalArgumentException: room");
        for (int room = 1; room <= 32; room++) {
            int entries = room;
            allowed("room " + room, StageLayerEdgesTest::empty, x -> x.apply(1, entries, 0), 0);
        }
        for (int room : new int[] {0, -1, 33, 34, 64, 65, MIN, MIN + 1, MAX}) {
            refusedAlways("room " + room, x -> x.apply(1, room, 0), ARGUMENT);
        }
    }

    private static void applyKeys() {
        sentence("apply(): a table of up to four keys (at least one); "
                + "IllegalArgumentException: not 1 to 4 bits");
        allowed("1 key", StageLayerEdgesTest::empty, x -> x.apply(1 << 27, 1, 0), 0);
        allowed("2 keys", StageLayerEdgesTest::empty, x -> x.apply(1 << 27 | 1, 1, 0), 0);
        allowed("3 keys", StageLayerEdgesTest::empty, x -> x.apply(7 << 14, 1, 0), 0);
        allowed("4 keys", StageLayerEdgesTest::empty, x -> x.apply(15 << 24, 1, 0), 0);
        refusedAlways("no key", x -> x.apply(0, 1, 0), ARGUMENT);
        refusedAlways("5 keys", x -> x.apply(31, 1, 0), ARGUMENT);
        refusedAlways("5 keys, the last ones", x -> x.apply(31 << 23, 1, 0), ARGUMENT);
        refusedAlways("5 keys apart", x -> x.apply(0x8421001, 1, 0), ARGUMENT);
        refusedAlways("28 keys", x -> x.apply(ALL, 1, 0), ARGUMENT);
        refusedAlways("no key, no room", x -> x.apply(0, 0, 0), ARGUMENT);
    }

    private static void applyFull() {
        sentence("apply(): IllegalStateException: as for assign()");
        isAtMostThe48th("apply(15, 32, 27)", x -> x.apply(15, 32, 27));
        reads("apply of 1 key", 2, x -> x.apply(1, 1, 1));
        reads("apply of 2 keys", 3, x -> x.apply(3, 1, 1));
        reads("apply of 3 keys", 4, x -> x.apply(7, 1, 1));
        reads("apply of 4 keys", 5, x -> x.apply(15, 1, 1));
    }

    private static void eightTables() {
        sentence("apply(): IllegalStateException: there are 8 tables");
        allowed("the eighth", () -> withTables(7), x -> x.apply(1, 1, 0), 7);
        refused("the ninth", () -> withTables(8), x -> x.apply(1, 1, 0), STATE);
        refused("the ninth, laid", () -> {
            StageLayer x = withTables(8);
            layWide(x);
            return x;
        }, x -> x.apply(1, 1, 0), STATE);
        allowed("another step behind 8 tables", () -> withTables(8), x -> x.assign(0, 0), 8);
        StageLayer x = withTables(8);
        due("tables", x.count(1), 8);
        due("steps", x.count(0), 8);
    }

    // ---- lay

    private static void layAtLeastOne() {
        sentence("lay(): how many it takes, at least 1");
        allowed("no steps, 1 stage", StageLayerEdgesTest::empty, x -> x.lay(1, 0, 0), 1);
        allowed("no steps, 12 stages", StageLayerEdgesTest::empty, x -> x.lay(12, MAX, MAX), 1);
        allowed("a step", () -> withChain(1), x -> x.lay(12, 0, 0), 1);
        allowed("two stages", () -> withChain(2), x -> x.lay(12, 0, 0), 2);
        StageLayer x = new StageLayer();
        x.lay(12, 0, 0);
        due("the one stage without steps: steps", x.used(0, 0), 0);
        due("the one stage without steps: memory", x.used(0, 1), 0);
        due("the one stage without steps: wires", x.used(0, 2), 0);
        due("no second stage", x.used(1, 0), NONE);
        due("none is homeless", x.homeless(), NONE);
        due("no step", x.stage(0), NONE);
        StageLayer back = withChain(3);
        back.assign(1, 0);
        due("the last step is not in the last stage", back.lay(12, 0, 0), 3);
    }

    private static void layAtMostSoMany() {
        sentence("lay(): All is laid into at most so many stages");
        for (int steps = 1; steps <= 12; steps++) {
            StageLayer x = withChain(steps);
            due(steps + " in a row, just enough stages", x.lay(steps, 0, 0), steps);
            for (int step = 0; step < steps; step++) {
                due(steps + " in a row: stage(" + step + ")", x.stage(step), step);
            }
            due(steps + " in a row, all stages", x.lay(12, 0, 0), steps);
            if (steps > 1) {
                due(steps + " in a row, a stage short", x.lay(steps - 1, 0, 0), NONE);
                due(steps + " in a row, a stage short: homeless", x.homeless(), steps - 1);
            }
        }
        allowed("13 in a row", () -> withChain(13), x -> x.lay(12, 0, 0), NONE);
    }

    private static void layFindsNone() {
        sentence("lay(): NONE if a step finds none (nothing is laid then)");
        StageLayer x = withChain(3);
        due("all are laid", x.lay(3, 0, 0), 3);
        due("a stage short", x.lay(2, 0, 0), NONE);
        for (int step = 0; step < 3; step++) {
            due("nothing is laid: stage(" + step + ")", x.stage(step), NONE);
        }
        for (int stage = 0; stage < 3; stage++) {
            for (int what = 0; what < 3; what++) {
                due("nothing is laid: used(" + stage + ", " + what + ")",
                        x.used(stage, what), NONE);
            }
        }
        due("the steps are still there", x.count(0), 3);
        due("all are laid again", x.lay(3, 0, 0), 3);
        due("each stage is used once", x.used(0, 0), 1);
        due("the last", x.stage(2), 2);

        StageLayer first = new StageLayer();
        first.apply(1, 1, 0);
        due("the first step finds none", first.lay(12, 23, 8), NONE);
        due("the first step is homeless", first.homeless(), 0);
        StageLayer last = withChain(12);
        addSteps(last, 35);
        addChain(last, 1);
        due("the 48th step finds none", last.lay(12, 0, 0), NONE);
        due("the 48th step is homeless", last.homeless(), 47);
        StageLayer more = withChain(2);
        more.drop();
        due("one behind it would find one", more.lay(1, 0, 0), NONE);
        due("it is homeless all the same", more.homeless(), 1);
    }

    private static void layArguments() {
        sentence("lay(): IllegalArgumentException: stages are not 1 .. 12, "
                + "memory or wires below 0");
        for (int stages = 1; stages <= 12; stages++) {
            int most = stages;
            allowed(stages + " stages", StageLayerEdgesTest::empty, x -> x.lay(most, 0, 0), 1);
        }
        for (int stages : new int[] {0, -1, 13, 14, 32, 33, MIN, MIN + 1, MAX}) {
            refusedAlways(stages + " stages", x -> x.lay(stages, 1, 1), ARGUMENT);
        }
        allowed("no memory", StageLayerEdgesTest::empty, x -> x.lay(1, 0, 1), 1);
        allowed("no wires", StageLayerEdgesTest::empty, x -> x.lay(1, 1, 0), 1);
        allowed("the most memory", StageLayerEdgesTest::empty, x -> x.lay(1, MAX, 0), 1);
        allowed("the most wires", StageLayerEdgesTest::empty, x -> x.lay(1, 0, MAX), 1);
        for (int below : new int[] {-1, -2, MIN, MIN + 1}) {
            refusedAlways("memory " + below, x -> x.lay(1, below, 0), ARGUMENT);
            refusedAlways("wires " + below, x -> x.lay(1, 0, below), ARGUMENT);
            refusedAlways("memory " + below + ", 12 stages", x -> x.lay(12, below, MAX), ARGUMENT);
            refusedAlways("wires " + below + ", 12 stages", x -> x.lay(12, MAX, below), ARGUMENT);
            refusedAlways("both " + below, x -> x.lay(1, below, below), ARGUMENT);
        }
    }

    private static void stepsBehindLay() {
        sentence("lay(): (Steps may come behind that: nothing is laid then.)");
        for (Call kind : ONE_OF_EACH_KIND) {
            StageLayer x = laid();
            due(kind.name + " behind lay()", kind.use.on(x), 4);
            for (int step = 0; step <= 4; step++) {
                due(kind.name + ": stage(" + step + ")", x.stage(step), NONE);
            }
            for (int what = 0; what < 3; what++) {
                due(kind.name + ": used(0, " + what + ")", x.used(0, what), NONE);
            }
            due(kind.name + ": it is laid with the others", layWide(x) >= 3 ? 1 : 0, 1);
            due(kind.name + ": the others come where they were", x.stage(2), 2);
        }
        StageLayer empty = new StageLayer();
        empty.lay(1, 0, 0);
        empty.drop();
        due("a step behind lay() of none: used", empty.used(0, 0), NONE);

        StageLayer ended = withOpenIfs(1);
        layWide(ended);
        ended.close();
        due("close() is no step: it stays laid", ended.stage(0), 0);
    }

    // ---- homeless

    private static void homelessOfTheLatestLay() {
        sentence("homeless(): The step that found no stage in the latest lay()");
        StageLayer x = withChain(12);
        for (int stages = 1; stages < 12; stages++) {
            x.lay(stages, 0, 0);
            due("in " + stages + " stages", x.homeless(), stages);
        }
        x.lay(12, 0, 0);
        due("in 12 stages", x.homeless(), NONE);
        x.lay(1, 0, 0);
        due("in one again", x.homeless(), 1);
        due("asked again", x.homeless(), 1);
        same("a refused lay()", answer(x, o -> o.lay(0, 0, 0)), ARGUMENT);
        due("behind a refused lay()", x.homeless(), 1);
    }

    private static void homelessSinceStepsCame() {
        sentence("homeless(): since steps came");
        for (Call kind : ONE_OF_EACH_KIND) {
            StageLayer x = withHomeless();
            due("in front of " + kind.name, x.homeless(), 2);
            kind.use.on(x);
            due("behind " + kind.name, x.homeless(), NONE);
            x.lay(1, 0, 0);
            due("behind " + kind.name + " and lay()", x.homeless(), 1);
        }
        StageLayer ended = withOpenIfs(2);
        ended.lay(1, 0, 0);
        ended.close();
        due("close() is no step", ended.homeless(), 1);
    }

    private static void homelessWithout() {
        sentence("homeless(): NONE without");
        due("a new object", new StageLayer().homeless(), NONE);
        due("not laid", withChain(13).homeless(), NONE);
        due("laid", laid().homeless(), NONE);
        StageLayer x = withHomeless();
        x.clear();
        due("cleared", x.homeless(), NONE);
    }

    // ---- stage, used, count

    private static void stageOfNoStep() {
        sentence("stage(): A step's stage; NONE if there is none such");
        StageLayer x = laid();
        due("the first", x.stage(0), 0);
        due("the last", x.stage(3), 0);
        for (int step : new int[] {-1, 4, 5, 47, 48, 49, 64, MIN, MIN + 1, MAX}) {
            due("stage(" + step + ")", x.stage(step), NONE);
        }
        StageLayer full = withSteps(48);
        layWide(full);
        due("the 48th", full.stage(47), 5);
        for (int step : new int[] {-1, 48, 49, MIN, MAX}) {
            due("48 steps: stage(" + step + ")", full.stage(step), NONE);
        }
        StageLayer fewer = withSteps(48);
        layWide(fewer);
        fewer.clear();
        fewer.drop();
        layWide(fewer);
        due("a step that is there no more", fewer.stage(1), NONE);
    }

    private static void stageOfNothingLaid() {
        sentence("stage(): NONE if nothing is laid");
        due("not laid", withChain(1).stage(0), NONE);
        due("a homeless step", withHomeless().stage(2), NONE);
        due("one before a homeless step", withHomeless().stage(0), NONE);
        StageLayer x = laid();
        x.drop();
        due("a step came", x.stage(0), NONE);
    }

    private static void usedOfNothingLaid() {
        sentence("used(): NONE if nothing is laid");
        for (int what = 0; what < 3; what++) {
            due("a new object, " + what, new StageLayer().used(0, what), NONE);
            due("not laid, " + what, withTables(1).used(0, what), NONE);
            due("a homeless step, " + what, withHomeless().used(0, what), NONE);
            StageLayer x = laid();
            x.drop();
            due("a step came, " + what, x.used(0, what), NONE);
        }
    }

    private static void usedOfNoStage() {
        sentence("used(): NONE if there is none such");
        StageLayer x = laid();
        int[][] want = {{2, 80, 16}, {1, 0, 0}, {1, 0, 0}};
        for (int what = 0; what < 3; what++) {
            for (int stage = 0; stage < 3; stage++) {
                due("used(" + stage + ", " + what + ")", x.used(stage, what), want[stage][what]);
            }
            for (int stage : new int[] {-1, 3, 4, 11, 12, 13, 32, MIN, MIN + 1, MAX}) {
                due("used(" + stage + ", " + what + ")", x.used(stage, what), NONE);
            }
        }
        StageLayer all = withChain(12);
        all.apply(1, 1, 0);
        all.clear();
        addChain(all, 11);
        all.apply(1, 1, 0);
        layWide(all);
        due("the last of 12: steps", all.used(11, 0), 1);
        due("the last of 12: memory", all.used(11, 1), 24);
        due("the last of 12: wires", all.used(11, 2), 8);
        due("behind 12", all.used(12, 0), NONE);
    }

    private static void usedOfAnotherWhat() {
        sentence("used(): NONE for another what");
        StageLayer x = laid();
        for (int what : new int[] {-1, 3, 4, 32, MIN, MIN + 1, MAX}) {
            due("used(0, " + what + ")", x.used(0, what), NONE);
        }
    }

    private static void countEmptyAndFull() {
        sentence("count(): Steps (what = 0), tables (1), IFs that are open (2)");
        StageLayer x = new StageLayer();
        for (int n = 0; n < 8; n++) {
            due("tables before", x.count(1), n);
            due("open before", x.count(2), n);
            due("steps before", x.count(0), 2 * n);
            x.open(0);
            x.apply(1, 1, 1);
        }
        due("8 tables", x.count(1), 8);
        due("8 open", x.count(2), 8);
        due("16 steps", x.count(0), 16);
        for (int n = 16; n < 48; n++) {
            x.drop();
        }
        due("48 steps", x.count(0), 48);
        for (int n = 7; n >= 0; n--) {
            x.close();
            due("open behind close()", x.count(2), n);
        }
        due("steps stay", x.count(0), 48);
        due("tables stay", x.count(1), 8);
        layWide(x);
        due("steps behind lay()", x.count(0), 48);
    }

    private static void countOfAnotherWhat() {
        sentence("count(): NONE for another what");
        StageLayer x = laid();
        for (int what : new int[] {-1, 3, 4, 32, MIN, MIN + 1, MAX}) {
            due("count(" + what + ")", x.count(what), NONE);
            due("new: count(" + what + ")", new StageLayer().count(what), NONE);
        }
    }
}
