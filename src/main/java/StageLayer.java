/**
 * Lays steps that read and write, ifs around them, and tables that need memory and wires into
 * stages: each, in order, to the first stage where it may be and has room.
 */
public final class StageLayer {
    /** None. */
    public static final int NONE = -1;

    private static final int METAS = 16;
    private static final int INSTANCES = 12;
    private static final int PLACES = METAS + INSTANCES;
    private static final int ARRAYS = 8;

    private static final int MAX_STEPS = 48;
    private static final int MAX_PLACES_READ = 800;
    private static final int MAX_OPEN = 8;
    private static final int MAX_TABLES = 8;
    private static final int MAX_KEYS = 4;
    private static final int MAX_ROOM = 32;
    private static final int MAX_STAGES = 12;
    private static final int MAX_STEPS_OF_STAGE = 8;

    private static final int MEMORY_OF_KEY = 16;
    private static final int MEMORY_OF_ENTRY = 8;
    private static final int WIRES_OF_KEY = 8;

    /** Behind the places' bits come the instances' validities, and behind these what is dropped. */
    private static final long DROPPED = 1L << (PLACES + INSTANCES);

    // A row for each property of a step, as long as there can be steps.
    private final long[] readsOf;
    private final long[] writesOf;
    private final int[] arrayOf;
    private final int[] ifAround;
    private final int[] memoryOf;
    private final int[] wiresOf;
    private final int[] stageOf;

    private final int[] openIfs;

    private final int[] stepsIn;
    private final int[] memoryIn;
    private final int[] wiresIn;

    private int steps;
    private int tables;
    private int ifsOpen;
    private int placesRead;
    /** How many stages the steps take; 0 while nothing is laid. */
    private int stagesLaid;
    private int homelessStep;

    public StageLayer() {
        readsOf = new long[MAX_STEPS];
        writesOf = new long[MAX_STEPS];
        arrayOf = new int[MAX_STEPS];
        ifAround = new int[MAX_STEPS];
        memoryOf = new int[MAX_STEPS];
        wiresOf = new int[MAX_STEPS];
        stageOf = new int[MAX_STEPS];
        openIfs = new int[MAX_OPEN];
        stepsIn = new int[MAX_STAGES];
        memoryIn = new int[MAX_STAGES];
        wiresIn = new int[MAX_STAGES];
        homelessStep = NONE;
    }

    public void clear() {
        steps = 0;
        tables = 0;
        ifsOpen = 0;
        placesRead = 0;
        forgetStages();
    }

    public int assign(int to, int reads) throws IndexOutOfBoundsException, IllegalStateException {
        requirePlace(to);
        requireReadable(reads);
        return addStep(readingAndWriting(reads, to), 1L << to, NONE, costOf(reads));
    }

    public int load(int to, int array, int reads)
            throws IndexOutOfBoundsException, IllegalStateException {
        requirePlace(to);
        requireArray(array);
        requireReadable(reads);
        return addStep(readingAndWriting(reads, to), 1L << to, array, costOf(reads));
    }

    public int store(int array, int index, int word)
            throws IndexOutOfBoundsException, IllegalStateException {
        requireArray(array);
        requireReadable(index);
        requireReadable(word);
        return addStep(reading(index | word), 0L, array, costOf(index) + costOf(word));
    }

    /** ADD and TAKE write the same, so they are laid alike. */
    public int valid(int instance, boolean add)
            throws IndexOutOfBoundsException, IllegalStateException {
        if (instance < 0 || instance >= INSTANCES) {
            throw new IndexOutOfBoundsException("no such instance");
        }
        int field = 1 << (METAS + instance);
        return addStep(validitiesOf(field), field | validitiesOf(field), NONE, 0);
    }

    public int drop() throws IllegalStateException {
        return addStep(0L, DROPPED, NONE, 0);
    }

    public int open(int reads) throws IndexOutOfBoundsException, IllegalStateException {
        requireReadable(reads);
        if (ifsOpen < 0 || ifsOpen >= MAX_OPEN) {
            throw new IllegalStateException("too many IFs are open");
        }
        int step = addStep(reading(reads), 0L, NONE, costOf(reads));
        openIfs[ifsOpen] = step;
        ifsOpen++;
        return step;
    }

    public int close() throws IllegalStateException {
        if (ifsOpen < 1 || ifsOpen > MAX_OPEN) {
            throw new IllegalStateException("no IF is open");
        }
        ifsOpen--;
        return openIfs[ifsOpen];
    }

    public int apply(int keys, int room, int to)
            throws IndexOutOfBoundsException, IllegalArgumentException, IllegalStateException {
        requirePlace(to);
        requireReadable(keys);
        int keyCount = Integer.bitCount(keys);
        if (room < 1 || room > MAX_ROOM) {
            throw new IllegalArgumentException("room is not 1 to 32");
        }
        if (keyCount < 1 || keyCount > MAX_KEYS) {
            throw new IllegalArgumentException("not 1 to 4 keys");
        }
        if (tables >= MAX_TABLES) {
            throw new IllegalStateException("there are 8 tables");
        }
        // The table's ASSIGN has a reading of none, which costs as any other.
        int cost = costOf(keys) + costOf(0);
        int step = addStep(readingAndWriting(keys, to), 1L << to, NONE, cost);
        need(step, room * (MEMORY_OF_KEY * keyCount + MEMORY_OF_ENTRY), WIRES_OF_KEY * keyCount);
        tables++;
        return step;
    }

    public int lay(int stages, int memory, int wires) throws IllegalArgumentException {
        if (stages < 1 || stages > MAX_STAGES) {
            throw new IllegalArgumentException("stages are not 1 to 12");
        }
        if (memory < 0 || wires < 0) {
            throw new IllegalArgumentException("memory or wires below 0");
        }
        forgetStages();
        emptyStages();
        int taken = 1;
        for (int step = 0; step < steps; step++) {
            int stage = findStage(step, stages, memory, wires);
            if (stage == NONE) {
                homelessStep = step;
                return NONE;
            }
            settle(step, stage);
            taken = Math.max(taken, stage + 1);
        }
        stagesLaid = taken;
        return taken;
    }

    public int homeless() {
        return homelessStep;
    }

    public int stage(int step) {
        if (stagesLaid == 0 || step < 0 || step >= steps || step >= MAX_STEPS) {
            return NONE;
        }
        return stageOf[step];
    }

    public int used(int stage, int what) {
        if (stage < 0 || stage >= stagesLaid || stage >= MAX_STAGES) {
            return NONE;
        }
        switch (what) {
            case 0:
                return stepsIn[stage];
            case 1:
                return memoryIn[stage];
            case 2:
                return wiresIn[stage];
            default:
                return NONE;
        }
    }

    public int count(int what) {
        switch (what) {
            case 0:
                return steps;
            case 1:
                return tables;
            case 2:
                return ifsOpen;
            default:
                return NONE;
        }
    }

    private static void requirePlace(int place) {
        if (place < 0 || place >= PLACES) {
            throw new IndexOutOfBoundsException("no such place");
        }
    }

    private static void requireArray(int array) {
        if (array < 0 || array >= ARRAYS) {
            throw new IndexOutOfBoundsException("no such array");
        }
    }

    private static void requireReadable(int bits) {
        if (bits >>> PLACES != 0) {
            throw new IndexOutOfBoundsException("bits that are no place");
        }
    }

    /** The bits of the validities of those instances whose fields are among these places. */
    private static long validitiesOf(int places) {
        return (long) (places >>> METAS) << PLACES;
    }

    private static long reading(int places) {
        return places | validitiesOf(places);
    }

    /** Writing a field reads its validity, though not the field. */
    private static long readingAndWriting(int places, int to) {
        return reading(places) | validitiesOf(1 << to);
    }

    /** What one reading counts towards the limit of places read: a reading of none counts too. */
    private static int costOf(int places) {
        return Math.max(1, Integer.bitCount(places));
    }

    private int addStep(long reads, long writes, int array, int cost) {
        if (steps < 0 || steps >= MAX_STEPS) {
            throw new IllegalStateException("there are 48 steps");
        }
        if (placesRead + cost > MAX_PLACES_READ) {
            throw new IllegalStateException("more than 800 places were read");
        }
        int step = steps;
        readsOf[step] = reads;
        writesOf[step] = writes;
        arrayOf[step] = array;
        ifAround[step] = innermostIf();
        need(step, 0, 0);
        steps++;
        placesRead += cost;
        forgetStages();
        return step;
    }

    private void need(int step, int memory, int wires) {
        if (step >= 0 && step < MAX_STEPS) {
            memoryOf[step] = memory;
            wiresOf[step] = wires;
        }
    }

    private int innermostIf() {
        return ifsOpen >= 1 && ifsOpen <= MAX_OPEN ? openIfs[ifsOpen - 1] : NONE;
    }

    private void forgetStages() {
        stagesLaid = 0;
        homelessStep = NONE;
    }

    private void emptyStages() {
        for (int stage = 0; stage < MAX_STAGES; stage++) {
            stepsIn[stage] = 0;
            memoryIn[stage] = 0;
            wiresIn[stage] = 0;
        }
    }

    /** The first stage where the step may be and has room, all earlier steps being settled. */
    private int findStage(int step, int stages, int memory, int wires) {
        int first = earliestStage(step);
        int last = stages - 1;
        int shared = stageOfSharedArray(step);
        if (shared != NONE) {
            if (shared < first) {
                return NONE;
            }
            first = shared;
            last = shared;
        }
        for (int stage = first; stage <= last; stage++) {
            if (hasRoom(step, stage, memory, wires)) {
                return stage;
            }
        }
        return NONE;
    }

    /** The first stage that the readings and writings of earlier steps and the IF around allow. */
    private int earliestStage(int step) {
        if (step < 0 || step >= MAX_STEPS) {
            return 0;
        }
        int around = ifAround[step];
        // An outer IF needs no look of its own: the inner one is behind it already.
        int earliest = around >= 0 && around < step ? stageOf[around] + 1 : 0;
        long writes = writesOf[step];
        long touches = readsOf[step] | writes;
        for (int before = 0; before < step; before++) {
            if ((writesOf[before] & touches) != 0L) {
                earliest = Math.max(earliest, stageOf[before] + 1);
            } else if ((readsOf[before] & writes) != 0L) {
                earliest = Math.max(earliest, stageOf[before]);
            }
        }
        return earliest;
    }

    private int stageOfSharedArray(int step) {
        if (step < 0 || step >= MAX_STEPS || arrayOf[step] == NONE) {
            return NONE;
        }
        for (int before = 0; before < step; before++) {
            if (arrayOf[before] == arrayOf[step]) {
                return stageOf[before];
            }
        }
        return NONE;
    }

    private boolean hasRoom(int step, int stage, int memory, int wires) {
        if (step < 0 || step >= MAX_STEPS || stage < 0 || stage >= MAX_STAGES) {
            return false;
        }
        return stepsIn[stage] < MAX_STEPS_OF_STAGE
                && memoryIn[stage] + memoryOf[step] <= memory
                && wiresIn[stage] + wiresOf[step] <= wires;
    }

    private void settle(int step, int stage) {
        if (step < 0 || step >= MAX_STEPS || stage < 0 || stage >= MAX_STAGES) {
            return;
        }
        stageOf[step] = stage;
        stepsIn[stage]++;
        memoryIn[stage] += memoryOf[step];
        wiresIn[stage] += wiresOf[step];
    }
}
