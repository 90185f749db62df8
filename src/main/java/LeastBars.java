import java.util.Arrays;

/**
 * A plant barred as little as may be: MACHINES told as texts, joined by the EVENTS they share;
 * which JOINTS are LOST and why; what is BARRED where; the plant as it goes then.
 *
 * The parts hold rows that are made once, in the constructor, and used again: no call makes anything.
 */
public final class LeastBars {

    public static final int UNKNOWN = -1, OUTSIDE = -2, STATE = -3, FULL = -4, NONE = -9;

    private static final int EVENTS = 8;
    private static final int STATES = 6;
    private static final int MACHINES = 6;
    private static final int JOINTS = 150;
    private static final int EDGES = JOINTS * EVENTS;
    private static final int CODES = 60;
    private static final int GREATEST_CODE = 127;
    private static final int BACKS = 16;
    private static final int PLANT = 0;
    private static final int RULE = 1;
    private static final int START = 0;
    private static final int FAULT_BASE = -100;

    private final Tape tape;
    private final Reader reader;
    private final Machine[] machines;
    private final Net net;
    private final Net part;
    private final int[] nothingLost;
    private final Losses losses;
    private final Control control;
    private final Trail trail;
    private int machineCount;
    private int freeSet;
    private int partSet;

    public LeastBars() {
        tape = new Tape();
        reader = new Reader();
        machines = new Machine[MACHINES];
        for (int m = 0; m < MACHINES; m++) {
            machines[m] = new Machine();
        }
        net = new Net();
        part = new Net();
        nothingLost = new int[JOINTS];
        Arrays.fill(nothingLost, NONE);
        losses = new Losses();
        control = new Control();
        trail = new Trail();
        machineCount = 0;
        freeSet = 0;
        partSet = NONE;
        joinAnew();
        controlAnew();
    }

    // ---- 1 machines

    public int type(int code) {
        if (code < 0 || code > GREATEST_CODE) {
            return OUTSIDE;
        }
        return tape.put(code) ? tape.length : FULL;
    }

    public int wipe() {
        int had = tape.length;
        tape.clear();
        return had;
    }

    public int machine(int kind) {
        if (kind != PLANT && kind != RULE) {
            return OUTSIDE;
        }
        if (machineCount >= MACHINES) {
            return FULL;
        }
        // The place behind the last MACHINE is spare, so a TEXT with a fault may spoil it.
        int fault = reader.read(tape, machines[machineCount], kind);
        if (fault != NONE) {
            return FAULT_BASE - fault;
        }
        tape.clear();
        machineCount++;
        joinAnew();
        controlAnew();
        return machineCount - 1;
    }

    public int drop() {
        if (machineCount == 0) {
            return STATE;
        }
        machineCount--;
        joinAnew();
        controlAnew();
        return machineCount;
    }

    public int free(int e, int v) {
        if (!isEvent(e)) {
            return UNKNOWN;
        }
        if (v != 0 && v != 1) {
            return OUTSIDE;
        }
        int was = freeSet >> e & 1;
        freeSet = freeSet & ~(1 << e) | v << e;
        controlAnew();
        return was;
    }

    public int anew() {
        int were = machineCount;
        machineCount = 0;
        freeSet = 0;
        joinAnew();
        controlAnew();
        return were;
    }

    public int ofMachine(int m, int what) {
        if (!isMachine(m)) {
            return UNKNOWN;
        }
        Machine machine = machines[m];
        switch (what) {
            case 0: return machine.kind;
            case 1: return machine.alphabet;
            case 2: return machine.marked;
            case 3: return machine.steps;
            case 4: return machine.greatest;
            default: return OUTSIDE;
        }
    }

    public int step(int m, int s, int e) {
        if (!isMachine(m) || !isState(s) || !isEvent(e)) {
            return UNKNOWN;
        }
        return machines[m].target(s, e);
    }

    // ---- 2 joints

    public int stateOf(int n, int m) {
        if (!net.has(n) || !isMachine(m)) {
            return UNKNOWN;
        }
        return net.stateIn(n, m);
    }

    public int leads(int n, int e) {
        if (!net.has(n) || !isEvent(e)) {
            return UNKNOWN;
        }
        return net.target(n, e);
    }

    public int joint(int n, int what) {
        if (!net.has(n)) {
            return UNKNOWN;
        }
        switch (what) {
            case 0: return net.isFinished(n) ? 1 : 0;
            case 1: return net.leadSet(n);
            case 2: return net.clashSet(n, freeSet);
            case 3: return losses.isLost(n) ? 0 : 1;
            case 4: return control.holds(n) ? 1 : 0;
            case 5: return losses.waveOf(n);
            case 6: return control.barredSet(n);
            default: return OUTSIDE;
        }
    }

    // ---- 3 why

    public int why(int n, int k, int what) {
        if (!net.has(n)) {
            return UNKNOWN;
        }
        if (k < 0 || k >= JOINTS || what < 0 || what > 2) {
            return OUTSIDE;
        }
        int link = losses.linkBehind(n, k);
        switch (what) {
            case 0: return losses.reasonOf(link);
            case 1: return losses.eventOf(link);
            default: return link;
        }
    }

    public int wave(int w) {
        return losses.hasWave(w) ? losses.sizeOfWave(w) : UNKNOWN;
    }

    public int some(int set, int what) {
        if (set < 0 || set > setOfAllMachines() || what < 0 || what > 1) {
            return OUTSIDE;
        }
        joinPart(set);
        if (part.isOver) {
            return NONE;
        }
        return what == 0 ? part.size : part.countStuck();
    }

    // ---- 4 the plant as it goes

    public int go(int e) {
        if (!isEvent(e)) {
            return UNKNOWN;
        }
        if (!control.holds(START)) {
            return STATE;
        }
        int next = net.target(trail.place, e);
        if (!control.holds(next)) {
            return NONE;
        }
        trail.moveTo(next);
        return next;
    }

    public int back() {
        return trail.turnBack() ? trail.place : STATE;
    }

    public int at() {
        return control.holds(START) ? trail.place : STATE;
    }

    public int finish(int k) {
        if (!isPlaceInWord(k)) {
            return OUTSIDE;
        }
        if (!control.holds(START)) {
            return STATE;
        }
        return k == NONE ? net.farOf(trail.place) : net.eventToFinish(trail.place, k);
    }

    public int word(int n, int k) {
        if (!net.has(n)) {
            return UNKNOWN;
        }
        if (!isPlaceInWord(k)) {
            return OUTSIDE;
        }
        return k == NONE ? control.depthOf(n) : control.eventTo(n, k);
    }

    public int many(int what) {
        switch (what) {
            case 0: return machineCount;
            case 1: return tape.length;
            case 2: return net.isOver ? NONE : net.size;
            case 3: return losses.lost;
            case 4: return control.size;
            case 5: return losses.waves;
            case 6: return trail.length;
            case 7: return control.bars;
            default: return OUTSIDE;
        }
    }

    // ---- what the calls share

    private void joinAnew() {
        net.join(machines, setOfAllMachines());
        partSet = NONE;
    }

    /** The part is kept till the MACHINES change, as one set is mostly asked for more than once. */
    private void joinPart(int set) {
        if (set != partSet) {
            part.join(machines, set);
            part.measure(nothingLost);
            partSet = set;
        }
    }

    private void controlAnew() {
        losses.sift(net, freeSet);
        control.spread(net, losses);
        trail.begin();
    }

    private int setOfAllMachines() {
        return (1 << machineCount) - 1;
    }

    private boolean isMachine(int m) {
        return m >= 0 && m < machineCount;
    }

    private static boolean isState(int s) {
        return s >= 0 && s < STATES;
    }

    private static boolean isEvent(int e) {
        return e >= 0 && e < EVENTS;
    }

    private static boolean isJoint(int n) {
        return n >= 0 && n < JOINTS;
    }

    private static boolean isPlaceInWord(int k) {
        return k == NONE || k >= 0 && k < JOINTS;
    }

    private static boolean isIn(int set, int k) {
        return (set >> k & 1) == 1;
    }

    private static int leastIn(int set) {
        for (int e = 0; e < EVENTS; e++) {
            if (isIn(set, e)) {
                return e;
            }
        }
        return NONE;
    }

    /** The TAPE. */
    private static final class Tape {
        private final int[] codes = new int[CODES];
        private int length = 0;

        private boolean put(int code) {
            if (length < 0 || length >= CODES) {
                return false;
            }
            codes[length] = code;
            length++;
            return true;
        }

        private void clear() {
            length = 0;
        }
    }

    /** Reads the TEXT of a MACHINE from the TAPE, code by code. */
    private static final class Reader {
        private static final int ITEM = 0, LETTER = 1, FIGURE = 2, MARK = 3, NAME = 4, BLANK = 5;

        private int awaited = ITEM;
        private int from = 0;
        private int event = 0;

        /** The FIRST FAULT; NONE: there is none. */
        private int read(Tape tape, Machine machine, int kind) {
            machine.clear(kind);
            awaited = ITEM;
            for (int place = 0; place < tape.length && place < CODES; place++) {
                if (!takes(tape.codes[place], machine)) {
                    return place;
                }
            }
            return awaited == BLANK ? NONE : tape.length;
        }

        private boolean takes(int code, Machine machine) {
            switch (awaited) {
                case ITEM: return opensItem(code);
                case LETTER: return takesLetter(code);
                case FIGURE: return takesFigure(code, machine);
                case MARK: return takesMark(code, machine);
                case NAME: return takesName(code, machine);
                default: return takesBlank(code);
            }
        }

        private boolean opensItem(int code) {
            if (code == '*') {
                awaited = MARK;
                return true;
            }
            if (code == '!') {
                awaited = NAME;
                return true;
            }
            from = code - '0';
            awaited = LETTER;
            return isState(from);
        }

        private boolean takesLetter(int code) {
            event = code - 'a';
            awaited = FIGURE;
            return isEvent(event);
        }

        private boolean takesFigure(int code, Machine machine) {
            awaited = BLANK;
            return machine.tellStep(from, event, code - '0');
        }

        private boolean takesMark(int code, Machine machine) {
            awaited = BLANK;
            return machine.tellMarked(code - '0');
        }

        private boolean takesName(int code, Machine machine) {
            awaited = BLANK;
            return machine.tellEvent(code - 'a');
        }

        private boolean takesBlank(int code) {
            awaited = ITEM;
            return code == ' ';
        }
    }

    /** A MACHINE: what its TEXT has told. */
    private static final class Machine {
        private final int[] targets = new int[STATES * EVENTS];
        private final int[] stepSets = new int[STATES];
        private int kind = PLANT;
        private int alphabet = 0;
        private int marked = 0;
        private int steps = 0;
        private int greatest = 0;

        private void clear(int newKind) {
            Arrays.fill(targets, NONE);
            Arrays.fill(stepSets, 0);
            kind = newKind;
            alphabet = 0;
            marked = 0;
            steps = 0;
            greatest = 0;
        }

        /** Whether it can be told: a step that is there must lead where it did. */
        private boolean tellStep(int from, int event, int to) {
            if (!isState(from) || !isEvent(event) || !isState(to)) {
                return false;
            }
            int before = targets[from * EVENTS + event];
            if (before != NONE) {
                return before == to;
            }
            targets[from * EVENTS + event] = to;
            stepSets[from] |= 1 << event;
            alphabet |= 1 << event;
            steps++;
            greatest = Math.max(greatest, Math.max(from, to));
            return true;
        }

        private boolean tellMarked(int state) {
            if (!isState(state)) {
                return false;
            }
            marked |= 1 << state;
            greatest = Math.max(greatest, state);
            return true;
        }

        private boolean tellEvent(int event) {
            if (!isEvent(event)) {
                return false;
            }
            alphabet |= 1 << event;
            return true;
        }

        private int target(int state, int event) {
            return isState(state) && isEvent(event) ? targets[state * EVENTS + event] : NONE;
        }

        /** The EVENTS of its ALPHABET by which it has no step from a STATE. */
        private int missingSet(int state) {
            return isState(state) ? alphabet & ~stepSets[state] : 0;
        }
    }

    /** The JOINTS of a set of MACHINES, and the edges (JOINT and EVENT) between them. */
    private static final class Net {
        private static final int BITS = 3;
        private static final int MASK = 7;
        private static final int SLOTS = 256;
        private static final int SPREADER = 0x9E3779B1;
        private static final int SLOT_SHIFT = 24;

        // A JOINT's code has three bits for the STATE of each MACHINE.
        private final int[] codes = new int[JOINTS];
        private final int[] leadSets = new int[JOINTS];
        private final int[] stoppedSets = new int[JOINTS];
        private final boolean[] finished = new boolean[JOINTS];
        private final int[] targets = new int[EDGES];
        // The edges into each JOINT are chained, so that ways can be followed backwards.
        private final int[] lastInto = new int[JOINTS];
        private final int[] earlierInto = new int[EDGES];
        private final int[] slots = new int[SLOTS];
        private final int[] far = new int[JOINTS];
        private final int[] queue = new int[JOINTS];
        private int queued = 0;
        private int alphabet = 0;
        private int plantAlphabet = 0;
        private int size = 0;
        private boolean isOver = false;

        private void join(Machine[] machines, int set) {
            size = 0;
            isOver = false;
            Arrays.fill(slots, NONE);
            gatherAlphabets(machines, set);
            meet(0);
            for (int n = 0; n < size && n < JOINTS && !isOver; n++) {
                spreadFrom(n, machines, set);
            }
            if (isOver) {
                size = 0;
            }
        }

        private void gatherAlphabets(Machine[] machines, int set) {
            alphabet = 0;
            plantAlphabet = 0;
            for (int m = 0; m < machines.length && set >> m != 0; m++) {
                if (isIn(set, m)) {
                    alphabet |= machines[m].alphabet;
                    if (machines[m].kind == PLANT) {
                        plantAlphabet |= machines[m].alphabet;
                    }
                }
            }
        }

        private void spreadFrom(int n, Machine[] machines, int set) {
            int missedByPlants = 0;
            int missedByRules = 0;
            for (int m = 0; m < machines.length && set >> m != 0; m++) {
                if (isIn(set, m)) {
                    int missed = machines[m].missingSet(stateIn(n, m));
                    if (machines[m].kind == PLANT) {
                        missedByPlants |= missed;
                    } else {
                        missedByRules |= missed;
                    }
                }
            }
            finished[n] = allMarked(codes[n], machines, set);
            leadSets[n] = alphabet & ~missedByPlants & ~missedByRules;
            stoppedSets[n] = plantAlphabet & ~missedByPlants & missedByRules;
            for (int e = 0; e < EVENTS; e++) {
                targets[n * EVENTS + e] = NONE;
                if (isIn(leadSets[n], e)) {
                    addEdge(n, e, meet(codeBehind(codes[n], e, machines, set)));
                }
            }
        }

        private void addEdge(int n, int e, int to) {
            if (!has(to)) {
                isOver = true;
                return;
            }
            int edge = n * EVENTS + e;
            targets[edge] = to;
            earlierInto[edge] = lastInto[to];
            lastInto[to] = edge;
        }

        /** An EVENT that LEADS moves just the MACHINES that have a step by it. */
        private int codeBehind(int code, int e, Machine[] machines, int set) {
            int next = code;
            for (int m = 0; m < machines.length && set >> m != 0; m++) {
                if (isIn(set, m)) {
                    int to = machines[m].target(code >> m * BITS & MASK, e);
                    if (to != NONE) {
                        next = next & ~(MASK << m * BITS) | to << m * BITS;
                    }
                }
            }
            return next;
        }

        /** The number of the JOINT with a code, a new one if it was not met; NONE: it would be one too many. */
        private int meet(int code) {
            int slot = code * SPREADER >>> SLOT_SHIFT;
            for (int tried = 0; tried < SLOTS; tried++) {
                int n = slots[slot];
                if (n == NONE) {
                    slots[slot] = add(code);
                    return slots[slot];
                }
                if (isJoint(n) && codes[n] == code) {
                    return n;
                }
                slot = (slot + 1) % SLOTS;
            }
            return NONE;
        }

        private int add(int code) {
            if (!isJoint(size)) {
                return NONE;
            }
            codes[size] = code;
            lastInto[size] = NONE;
            size++;
            return size - 1;
        }

        private boolean allMarked(int code, Machine[] machines, int set) {
            for (int m = 0; m < machines.length && set >> m != 0; m++) {
                if (isIn(set, m) && !isIn(machines[m].marked, code >> m * BITS & MASK)) {
                    return false;
                }
            }
            return true;
        }

        /** How far each JOINT is from a FINISHED one, over such as are not LOST (NONE in the row that is given). */
        private void measure(int[] lostIn) {
            queued = 0;
            for (int n = 0; n < size && n < lostIn.length; n++) {
                far[n] = NONE;
                if (finished[n] && lostIn[n] == NONE) {
                    enqueue(n, 0);
                }
            }
            for (int q = 0; q < queued && q < JOINTS; q++) {
                measureBackFrom(queue[q], lostIn);
            }
        }

        private void measureBackFrom(int n, int[] lostIn) {
            int edge = lastInto[n];
            for (int i = 0; i < EDGES && edge >= 0 && edge < EDGES; i++) {
                int from = edge / EVENTS;
                if (far[from] == NONE && from < lostIn.length && lostIn[from] == NONE) {
                    enqueue(from, far[n] + 1);
                }
                edge = earlierInto[edge];
            }
        }

        private void enqueue(int n, int distance) {
            if (queued < JOINTS) {
                far[n] = distance;
                queue[queued] = n;
                queued++;
            }
        }

        private int countStuck() {
            return size - queued;
        }

        /** EVENT k of the first of the shortest ways to a FINISHED JOINT, as last measured; NONE: it has not so many. */
        private int eventToFinish(int n, int k) {
            int place = n;
            for (int i = 0; i < k && has(place); i++) {
                place = target(place, nearerBy(place));
            }
            return nearerBy(place);
        }

        private int nearerBy(int n) {
            if (farOf(n) > 0) {
                for (int e = 0; e < EVENTS; e++) {
                    if (farOf(target(n, e)) == farOf(n) - 1) {
                        return e;
                    }
                }
            }
            return NONE;
        }

        private boolean has(int n) {
            return n >= 0 && n < size && n < JOINTS;
        }

        private int stateIn(int n, int m) {
            return has(n) ? codes[n] >> m * BITS & MASK : NONE;
        }

        private int target(int n, int e) {
            return has(n) && isEvent(e) ? targets[n * EVENTS + e] : NONE;
        }

        private boolean isFinished(int n) {
            return has(n) && finished[n];
        }

        private int leadSet(int n) {
            return has(n) ? leadSets[n] : 0;
        }

        private int clashSet(int n, int freeSet) {
            return has(n) ? stoppedSets[n] & freeSet : 0;
        }

        private int farOf(int n) {
            return has(n) ? far[n] : NONE;
        }
    }

    /** Which JOINTS are LOST, wave by wave, and why. */
    private static final class Losses {
        private static final int CLASHES = 1, PUSHED = 2, STUCK = 3;
        // Wave 0 may be empty; each other has one JOINT at least.
        private static final int WAVES = JOINTS + 1;

        private final int[] lostIn = new int[JOINTS];
        private final int[] reasons = new int[JOINTS];
        private final int[] events = new int[JOINTS];
        private final int[] causes = new int[JOINTS];
        private final int[] waveSizes = new int[WAVES];
        private int waves = 0;
        private int lost = 0;

        /** Leaves the net measured over the JOINTS that are KEPT. */
        private void sift(Net net, int freeSet) {
            Arrays.fill(lostIn, NONE);
            Arrays.fill(waveSizes, 0);
            waves = 0;
            lost = 0;
            if (net.isOver) {
                return;
            }
            loseClashing(net, freeSet);
            waves = 1;
            for (int round = 0; round < WAVES; round++) {
                int before = lost;
                losePushed(net, freeSet);
                if (lost == before) {
                    loseStuck(net);
                }
                if (lost == before) {
                    break;
                }
                waves++;
            }
        }

        private void loseClashing(Net net, int freeSet) {
            for (int n = 0; n < net.size; n++) {
                int clashes = net.clashSet(n, freeSet);
                if (clashes != 0) {
                    lose(n, CLASHES, leastIn(clashes), NONE);
                }
            }
        }

        private void losePushed(Net net, int freeSet) {
            for (int n = 0; n < net.size; n++) {
                int pushing = net.leadSet(n) & freeSet;
                if (pushing != 0 && !isLost(n)) {
                    losePushedBy(net, n, pushing);
                }
            }
        }

        private void losePushedBy(Net net, int n, int pushing) {
            for (int e = 0; e < EVENTS; e++) {
                if (isIn(pushing, e) && isLostInEarlierWave(net.target(n, e))) {
                    lose(n, PUSHED, e, net.target(n, e));
                    return;
                }
            }
        }

        private void loseStuck(Net net) {
            net.measure(lostIn);
            for (int n = 0; n < net.size; n++) {
                if (!isLost(n) && net.farOf(n) == NONE) {
                    lose(n, STUCK, NONE, NONE);
                }
            }
        }

        private void lose(int n, int reason, int event, int cause) {
            if (!isJoint(n) || waves >= WAVES) {
                return;
            }
            lostIn[n] = waves;
            reasons[n] = reason;
            events[n] = event;
            causes[n] = cause;
            waveSizes[waves]++;
            lost++;
        }

        private boolean isLost(int n) {
            return waveOf(n) != NONE;
        }

        private boolean isLostInEarlierWave(int n) {
            return isJoint(n) && lostIn[n] != NONE && lostIn[n] < waves;
        }

        private int waveOf(int n) {
            return isJoint(n) ? lostIn[n] : NONE;
        }

        private int reasonOf(int n) {
            return isLost(n) ? reasons[n] : NONE;
        }

        private int eventOf(int n) {
            return isLost(n) ? events[n] : NONE;
        }

        /** The JOINT that is k causes behind n, n itself for 0; NONE: there are not so many. */
        private int linkBehind(int n, int k) {
            int link = isLost(n) ? n : NONE;
            for (int i = 0; i < k && isJoint(link); i++) {
                link = causes[link];
            }
            return link;
        }

        private boolean hasWave(int w) {
            return w >= 0 && w < waves;
        }

        private int sizeOfWave(int w) {
            return w >= 0 && w < WAVES ? waveSizes[w] : 0;
        }
    }

    /** The JOINTS UNDER CONTROL, the first WORD to each, and what is BARRED there. */
    private static final class Control {
        private final int[] depths = new int[JOINTS];
        private final int[] edgesInto = new int[JOINTS];
        private final int[] barredSets = new int[JOINTS];
        private final int[] queue = new int[JOINTS];
        private int size = 0;
        private int bars = 0;

        private void spread(Net net, Losses losses) {
            Arrays.fill(depths, NONE);
            size = 0;
            bars = 0;
            if (!net.has(START) || losses.isLost(START)) {
                return;
            }
            comeTo(START, NONE, 0);
            for (int q = 0; q < size && q < JOINTS; q++) {
                spreadFrom(queue[q], net, losses);
            }
        }

        /** JOINTS are come to in the order of their first WORDS, for both queue and EVENTS go by it. */
        private void spreadFrom(int n, Net net, Losses losses) {
            int leading = net.leadSet(n);
            int barred = 0;
            for (int e = 0; e < EVENTS && leading >> e != 0; e++) {
                if (!isIn(leading, e)) {
                    continue;
                }
                int to = net.target(n, e);
                if (losses.isLost(to)) {
                    barred |= 1 << e;
                } else if (isJoint(to) && !holds(to)) {
                    comeTo(to, n * EVENTS + e, depths[n] + 1);
                }
            }
            barredSets[n] = barred;
            bars += Integer.bitCount(barred);
        }

        private void comeTo(int n, int edge, int depth) {
            if (size < JOINTS) {
                depths[n] = depth;
                edgesInto[n] = edge;
                queue[size] = n;
                size++;
            }
        }

        private boolean holds(int n) {
            return depthOf(n) != NONE;
        }

        private int depthOf(int n) {
            return isJoint(n) ? depths[n] : NONE;
        }

        private int barredSet(int n) {
            return holds(n) ? barredSets[n] : NONE;
        }

        /** EVENT k of the first WORD from START; NONE: it has not so many, or there is no WORD. */
        private int eventTo(int n, int k) {
            int place = n;
            for (int i = 0; i < JOINTS && depthOf(place) > k + 1; i++) {
                place = edgesInto[place] / EVENTS;
            }
            return depthOf(place) == k + 1 ? edgesInto[place] % EVENTS : NONE;
        }
    }

    /** Where the plant is, and the last places at which it was. */
    private static final class Trail {
        private final int[] places = new int[BACKS];
        private int next = 0;
        private int length = 0;
        private int place = START;

        private void begin() {
            next = 0;
            length = 0;
            place = START;
        }

        private void moveTo(int joint) {
            if (next < 0 || next >= BACKS) {
                return;
            }
            places[next] = place;
            next = (next + 1) % BACKS;
            length = Math.min(length + 1, BACKS);
            place = joint;
        }

        private boolean turnBack() {
            if (length == 0) {
                return false;
            }
            next = Math.floorMod(next - 1, BACKS);
            place = places[next];
            length--;
            return true;
        }
    }
}
