import java.io.IOException;
import java.nio.file.Files;
import java.nio.file.Path;
import java.util.ArrayList;
import java.util.List;

/** What README.md says of an answer is what the class answers. It runs in the project's folder. */
public final class StageLayerReadmeTest {
    private static final int NONE = StageLayer.NONE;
    private static final int ALL = (1 << 28) - 1;

    /** The example's calls, as README.md writes them behind "layer.". */
    private static final List<String> calls = new ArrayList<>();
    private static final List<Integer> answers = new ArrayList<>();

    private static int wrong = 0;

    private interface Use {
        int on(StageLayer x);
    }

    public static void main(String[] args) throws IOException {
        runExample();
        compareExample(exampleOf(Files.readAllLines(Path.of("README.md"))));
        orderOfExceptions();
        layUndone();
        emptyLay();
        placesThatCount();
        System.out.println(wrong == 0 ? "README.md tells the answers" : wrong + " wrong");
        if (wrong != 0) {
            System.exit(1);
        }
    }

    private static void due(String what, Object got, Object want) {
        if (!want.equals(got)) {
            wrong++;
            System.out.println(what + ": " + got + ", due is " + want);
        }
    }

    private static String answer(StageLayer x, Use use) {
        try {
            return String.valueOf(use.on(x));
        } catch (RuntimeException e) {
            return e.getClass().getSimpleName();
        }
    }

    private static void call(String text, int answer) {
        calls.add(text);
        answers.add(answer);
    }

    private static void runExample() {
        StageLayer layer = new StageLayer();
        call("assign(0, 1 << 1)", layer.assign(0, 1 << 1));
        call("open(1 << 0)", layer.open(1 << 0));
        call("apply(1 << 2 | 1 << 16, 4, 17)", layer.apply(1 << 2 | 1 << 16, 4, 17));
        call("close()", layer.close());
        call("lay(12, 1000, 64)", layer.lay(12, 1000, 64));
        call("stage(2)", layer.stage(2));
        call("used(2, 1)", layer.used(2, 1));
        call("used(2, 2)", layer.used(2, 2));
        call("used(3, 0)", layer.used(3, 0));
        call("lay(2, 1000, 64)", layer.lay(2, 1000, 64));
        call("homeless()", layer.homeless());
        call("stage(0)", layer.stage(0));
        call("drop()", layer.drop());
        call("homeless()", layer.homeless());
        call("lay(12, 1000, 64)", layer.lay(12, 1000, 64));
        call("stage(3)", layer.stage(3));
        call("count(0)", layer.count(0));
    }

    private static List<String> exampleOf(List<String> readme) {
        List<String> lines = new ArrayList<>();
        for (String line : readme) {
            if (line.startsWith("layer.")) {
                lines.add(line);
            }
        }
        return lines;
    }

    private static void compareExample(List<String> lines) {
        due("calls in README.md", lines.size(), calls.size());
        for (int k = 0; k < Math.min(lines.size(), calls.size()); k++) {
            String line = lines.get(k);
            String told = line.replaceFirst("^layer\\.(.*); *// (-?\\d+): .*$", "$1 = $2");
            due("README.md: " + line, told, calls.get(k) + " = " + answers.get(k));
        }
    }

    /** "Where more than one would do, the one that stands first here is thrown." */
    private static void orderOfExceptions() {
        StageLayer x = new StageLayer();
        for (int n = 0; n < 8; n++) {
            x.apply(1, 1, 0);
        }
        due("place, room and tables", answer(x, y -> y.apply(1, 0, 28)), "IndexOutOfBoundsException");
        due("bits, keys and tables", answer(x, y -> y.apply(-1, 1, 0)), "IndexOutOfBoundsException");
        due("room and tables", answer(x, y -> y.apply(1, 33, 0)), "IllegalArgumentException");
        due("keys and tables", answer(x, y -> y.apply(31, 1, 0)), "IllegalArgumentException");
        due("tables", answer(x, y -> y.apply(1, 1, 0)), "IllegalStateException");
        due("a call that throws changes nothing", x.count(0), 8);
    }

    /** "A step that comes behind lay undoes it, .. close leaves both as they are." */
    private static void layUndone() {
        StageLayer x = new StageLayer();
        x.open(0);
        x.assign(0, 0);
        due("lay finds no stage", x.lay(1, 0, 0), NONE);
        x.close();
        due("homeless behind close", x.homeless(), 1);
        x.open(0);
        due("homeless behind a step", x.homeless(), NONE);
        due("lay", x.lay(12, 0, 0), 2);
        x.close();
        due("stage behind close", x.stage(1), 1);
        x.drop();
        due("stage behind a step", x.stage(1), NONE);
    }

    /** "lay without steps answers 1: one empty stage." */
    private static void emptyLay() {
        StageLayer x = new StageLayer();
        due("lay without steps", x.lay(12, 0, 0), 1);
        due("its stage", x.used(0, 0), 0);
        due("no second one", x.used(1, 0), NONE);
    }

    /** "What counts towards the 800 places that may be read" */
    private static void placesThatCount() {
        counts("assign of all", 28, y -> y.assign(0, ALL));
        counts("assign of none", 1, y -> y.assign(0, 0));
        counts("load of two", 2, y -> y.load(0, 0, 3));
        counts("store of none", 2, y -> y.store(0, 0, 0));
        counts("store of the same place twice", 2, y -> y.store(0, 1, 1));
        counts("store of one and three", 4, y -> y.store(0, 1, 7));
        counts("open of none", 1, y -> y.open(0));
        counts("apply of four keys", 5, y -> y.apply(15, 1, 0));
        counts("valid", 0, y -> y.valid(0, true));
        counts("drop", 0, StageLayer::drop);
    }

    /** Taken where just so many places are left, and refused where one is missing. */
    private static void counts(String what, int cost, Use use) {
        due(what + " where it is just enough", answer(withLeft(cost), use), "29");
        if (cost > 0) {
            due(what + " where one is missing", answer(withLeft(cost - 1), use),
                    "IllegalStateException");
        }
    }

    /** An object with 29 steps, which may read so many places more: 0 to 28. */
    private static StageLayer withLeft(int places) {
        StageLayer x = new StageLayer();
        for (int n = 0; n < 27; n++) {
            x.assign(0, ALL);
        }
        // 27 times 28 are 756 of the 800: 44 are left.
        int rest = 44 - places;
        int first = Math.min(28, rest - 1);
        x.assign(0, (1 << first) - 1);
        x.assign(0, (1 << (rest - first)) - 1);
        return x;
    }
}
