/** The boundary cases of promises 10 to 15 and of parts 2 and 3 of the terms. */
public final class JointEdgesTest {
    private static final int UNKNOWN = LeastBars.UNKNOWN, OUTSIDE = LeastBars.OUTSIDE, STATE = LeastBars.STATE,
        NONE = LeastBars.NONE;

    public static void main(String[] args) {
        startIsAlwaysThere();
        inAnAlphabetAtLeast();
        joints149To151();
        overAndBack();
        overFromWithin();
        overWhileSomeAreNot();
        statesOfTheLastJoint();
        firstAndLastMachine();
        leadsOnTheEdges();
        finishedAsksForAll();
        clashNeedsEachPart();
        jointOnTheEdges();
        setsOfAllEvents();
        waveZeroIsEmpty();
        waveZeroAlone();
        wavesInOrder();
        oneWaveAtATime();
        startIsLostByEachReason();
        keptButNotUnderControl();
        hundredAndFiftyWaves();
        hundredAndFiftyOneWaves();
        whyOnTheEdges();
        sets();
        someOfMany();
        someIsFreeOfRules();
        Due.close();
    }

    private static void startIsAlwaysThere() {
        Due.part("terms 2, START");
        LeastBars x = Due.with("", "P 1a2 *3", "R !b");
        Due.many(x, 2, 0, 1, 1, 0, 2, 0, 0);
        Due.is("all 0", x.stateOf(0, 0), 0);
        Due.is("all 0", x.stateOf(0, 1), 0);
        Due.is("there is no other", x.stateOf(1, 0), UNKNOWN);
    }

    private static void inAnAlphabetAtLeast() {
        Due.part("terms 2, LEADS");
        LeastBars x = Due.with("", "P *0", "R *0");
        Due.is("in no ALPHABET", x.joint(0, 1), 0);
        x = Due.with("", "P *0", "R 0h0 *0");
        Due.is("in one, with a step", x.joint(0, 1), 128);
        Due.is("to START itself", x.leads(0, 7), 0);
        x = Due.with("", "P *0", "R !h *0");
        Due.is("in one, without a step", x.joint(0, 1), 0);
        x = Due.with("", "P 0a1 *0", "P 0a1 *0", "P 0a1 *0", "P 0a1 *0", "P 0a1 *0", "P 0a1 *0");
        Due.is("all six have a step", x.leads(0, 0), 1);
        for (int m = 0; m < 6; m++) {
            Due.is("all six go", x.stateOf(1, m), 1);
        }
        Due.is("the step is there no more", x.leads(1, 0), NONE);
        x.drop();
        Due.tell(x, 0, "1a1 *0");
        Due.is("the sixth has none from its STATE", x.leads(0, 0), NONE);
        x.drop();
        Due.tell(x, 0, "*0");
        Due.is("the sixth does not have it", x.leads(0, 0), 1);
        Due.is("it stays where it was", x.stateOf(1, 5), 0);
    }

    private static void joints149To151() {
        Due.part("terms 2, 149, 150, 151 JOINTS");
        for (int more = 0; more < 2; more++) {
            LeastBars x = Plants.hundredFortyNineAnd(more);
            int size = 149 + more;
            Due.many(x, 5, 0, size, 0, size, 1, 0, 0);
            Due.is("the last, MACHINE 0", x.stateOf(size - 1, 0), 5);
            Due.is("the last, MACHINE 2", x.stateOf(size - 1, 2), 3);
            Due.is("the last", x.joint(size - 1, 4), 1);
            Due.is("one behind it", x.joint(size, 0), UNKNOWN);
            Due.is("one ahead", x.joint(-1, 0), UNKNOWN);
            Due.is("at()", x.at(), 0);
            Due.is("some(31, 0)", x.some(31, 0), size);
            Due.is("some(31, 1)", x.some(31, 1), 0);
        }
        LeastBars x = Plants.hundredFortyNineAnd(2);
        Due.many(x, 5, 0, NONE, 0, 0, 0, 0, 0);
        Due.is("no JOINTS", x.joint(0, 0), UNKNOWN);
        Due.is("some(31, 0)", x.some(31, 0), NONE);
        Due.is("some(31, 1)", x.some(31, 1), NONE);
    }

    private static void overAndBack() {
        Due.part("terms 2, OVER");
        LeastBars x = Plants.hundredFortyNineAnd(2);
        for (int n = 0; n < 151; n += 75) {
            Due.is("stateOf(" + n + ", 0)", x.stateOf(n, 0), UNKNOWN);
            Due.is("leads(" + n + ", 0)", x.leads(n, 0), UNKNOWN);
            Due.is("joint(" + n + ", 3)", x.joint(n, 3), UNKNOWN);
            Due.is("why(" + n + ", 0, 0)", x.why(n, 0, 0), UNKNOWN);
            Due.is("word(" + n + ", NONE)", x.word(n, NONE), UNKNOWN);
        }
        Due.is("no wave, not even 0", x.wave(0), UNKNOWN);
        Due.is("go(0)", x.go(0), STATE);
        Due.is("at()", x.at(), STATE);
        Due.is("back()", x.back(), STATE);
        Due.is("finish(NONE)", x.finish(NONE), STATE);
        Due.is("free(0, 1)", x.free(0, 1), 0);
        Due.many(x, 5, 0, NONE, 0, 0, 0, 0, 0);
        Due.is("MACHINES are there", x.ofMachine(4, 2), 7);
        Due.is("steps are there", x.step(4, 1, 4), 2);
        Due.is("one MACHINE more, still OVER", Due.tell(x, 1, "*0"), 5);
        Due.is("many(2)", x.many(2), NONE);
        Due.is("drop()", x.drop(), 5);
        Due.is("many(2)", x.many(2), NONE);
        Due.is("drop()", x.drop(), 4);
        Due.is("OVER no more", x.many(2), 149);
        Due.is("waves", x.many(5), 1);
        Due.is("wave(0)", x.wave(0), 0);
        Due.is("at()", x.at(), 0);
        Due.is("go(0)", x.go(0), 1);
        Due.is("OVER again", Due.tell(x, 0, "0e1 1e2 *0 *1 *2"), 4);
        Due.many(x, 5, 0, NONE, 0, 0, 0, 0, 0);
        Due.is("anew()", x.anew(), 5);
        Due.many(x, 0, 0, 1, 0, 1, 1, 0, 0);
    }

    private static void overFromWithin() {
        Due.part("terms 2, OVER, far more than 150");
        LeastBars x = Due.with("", "P 0a1 1a2 2a3 3a4 4a5 *0", "P 0b1 1b2 2b3 3b4 4b5 *0", "P 0c1 1c2 2c3 3c4 *0");
        Due.is("180", x.many(2), NONE);
        Due.is("a RULE can make it less", Due.tell(x, 1, "0a0 0b0 !c *0"), 3);
        Due.is("36", x.many(2), 36);
        x = Due.with("abc", "P 0a1 1a2 2a3 3a4 4a5 5a0 *0", "P 0b1 1b2 2b3 3b4 4b5 5b0 *0",
            "P 0c1 1c2 2c3 3c4 4c5 5c0 *0", "P 0d1 1d2 2d3 3d4 4d5 5d0 *0", "P 0e1 1e2 2e3 3e4 4e5 5e0 *0",
            "P 0f1 1f2 2f3 3f4 4f5 5f0 *0");
        Due.many(x, 6, 0, NONE, 0, 0, 0, 0, 0);
        Due.is("some(63, 0)", x.some(63, 0), NONE);
        Due.is("some(3, 0)", x.some(3, 0), 36);
    }

    private static void overWhileSomeAreNot() {
        Due.part("terms 2, a CLASH where it is OVER");
        LeastBars x = Plants.hundredFortyNineAnd(2);
        Due.is("machine", Due.tell(x, 1, "!h *0"), 5);
        x.free(7, 1);
        Due.many(x, 6, 0, NONE, 0, 0, 0, 0, 0);
        Due.is("wave(0)", x.wave(0), UNKNOWN);
    }

    private static void statesOfTheLastJoint() {
        Due.part("promise 10, JOINTS 0 .. 149");
        LeastBars x = Plants.rowToFinish();
        int[] joints = {-1, 0, 1, 148, 149, 150};
        int[][] want = {null, {0, 0, 0}, {1, 0, 0}, {4, 4, 4}, {5, 4, 4}, null};
        for (int i = 0; i < joints.length; i++) {
            for (int m = 0; m < 3; m++) {
                int due = want[i] == null ? UNKNOWN : want[i][m];
                Due.is("stateOf(" + joints[i] + ", " + m + ")", x.stateOf(joints[i], m), due);
            }
        }
        for (int n = 0; n < 150; n++) {
            Due.is("leads(" + n + ")", x.leads(n, Plants.onward(n)), n < 149 ? n + 1 : NONE);
        }
    }

    private static void firstAndLastMachine() {
        Due.part("promise 10, MACHINES 0 .. 5");
        LeastBars x = Due.with("", "P 0a1 *0", "P 0a2 *0", "P 0a3 *0", "P 0a4 *0", "P 0a5 *0", "P 0a0 *0");
        int[] want = {UNKNOWN, 1, 2, 3, 4, 5, 0, UNKNOWN};
        for (int m = -1; m <= 6; m++) {
            Due.is("stateOf(1, " + m + ")", x.stateOf(1, m), want[m + 1]);
        }
        x.drop();
        Due.is("stateOf(1, 4)", x.stateOf(1, 4), 5);
        Due.is("stateOf(1, 5)", x.stateOf(1, 5), UNKNOWN);
    }

    private static void leadsOnTheEdges() {
        Due.part("promise 11");
        LeastBars x = Due.with("", "P 0a1 0h2 1h1 *0");
        int[][] want = {{1, NONE, 2}, {NONE, NONE, 1}, {NONE, NONE, NONE}};
        int[] events = {0, 6, 7};
        for (int n = 0; n < 3; n++) {
            for (int i = 0; i < 3; i++) {
                Due.is("leads(" + n + ", " + events[i] + ")", x.leads(n, events[i]), want[n][i]);
            }
            Due.is("leads(" + n + ", -1)", x.leads(n, -1), UNKNOWN);
            Due.is("leads(" + n + ", 8)", x.leads(n, 8), UNKNOWN);
        }
        Due.is("leads(3, 0)", x.leads(3, 0), UNKNOWN);
        Due.is("leads(-1, 0)", x.leads(-1, 0), UNKNOWN);
        Due.is("a LOST one is led to all the same", x.joint(2, 3), 0);
    }

    private static void finishedAsksForAll() {
        Due.part("terms 2, FINISHED");
        Due.is("no MACHINE", new LeastBars().joint(0, 0), 1);
        Due.is("the only one is MARKED", Due.with("", "P *0").joint(0, 0), 1);
        Due.is("another STATE is MARKED", Due.with("", "P *1").joint(0, 0), 0);
        Due.is("none is MARKED", Due.with("", "R !a").joint(0, 0), 0);
        LeastBars x = Due.with("", "P *0", "R *0", "P *0", "R *0", "P *0", "R *0");
        Due.is("six of six", x.joint(0, 0), 1);
        x.drop();
        Due.tell(x, 1, "*5");
        Due.is("five of six", x.joint(0, 0), 0);
        x = Due.with("", "P *5", "R *0");
        Due.is("the second alone", x.joint(0, 0), 0);
        x = Due.with("", "P 0a5 *5");
        Due.is("STATE 0", x.joint(0, 0), 0);
        Due.is("STATE 5", x.joint(1, 0), 1);
    }

    private static void clashIs(String what, LeastBars x, int want) {
        Due.is(what, x.joint(0, 2), want);
        Due.is(what + ", wave 0", x.wave(0), want == 0 ? 0 : 1);
    }

    private static void clashNeedsEachPart() {
        Due.part("terms 2, CLASH");
        clashIs("all parts", Due.with("h", "P 0h0 *0", "R !h *0"), 128);
        clashIs("it is not FREE", Due.with("g", "P 0h0 *0", "R !h *0"), 0);
        clashIs("no PLANT has it", Due.with("h", "P *0", "R !h *0"), 0);
        clashIs("no PLANT has it, a RULE has a step", Due.with("h", "R 0h0 *0", "R !h *0"), 0);
        clashIs("a PLANT has it without a step", Due.with("h", "P !h *0", "R !h *0"), 0);
        clashIs("one PLANT of two has no step", Due.with("h", "P 0h0 *0", "P !h *0", "R !h *0"), 0);
        clashIs("both PLANTS have a step", Due.with("h", "P 0h0 *0", "P 0h1 *0", "R !h *0"), 128);
        clashIs("the other PLANT does not have it", Due.with("h", "P 0h0 *0", "P *0", "R !h *0"), 128);
        clashIs("the RULE does not have it", Due.with("h", "P 0h0 *0", "R *0"), 0);
        clashIs("the RULE has a step", Due.with("h", "P 0h0 *0", "R 0h0 *0"), 0);
        clashIs("the RULE has a step elsewhere", Due.with("h", "P 0h0 *0", "R 1h0 *0"), 128);
        clashIs("the first RULE of two has a step", Due.with("h", "P 0h0 *0", "R 0h0 *0", "R !h *0"), 128);
        clashIs("the second RULE of two has a step", Due.with("h", "P 0h0 *0", "R !h *0", "R 0h0 *0"), 128);
        clashIs("the RULE came first", Due.with("h", "R !h *0", "P 0h0 *0"), 128);
        clashIs("the PLANT alone", Due.with("h", "P 0h0 *0"), 0);
        LeastBars x = Due.with("", "P 0h0 *0", "R !h *0");
        clashIs("ahead of free", x, 0);
        x.free(7, 1);
        clashIs("behind free", x, 128);
        x.free(7, 0);
        clashIs("it can be BARRED again", x, 0);
    }

    private static void jointOnTheEdges() {
        Due.part("promise 12, what 0 .. 6");
        LeastBars x = Plants.going();
        int[][] want = {{UNKNOWN, UNKNOWN, UNKNOWN, UNKNOWN, UNKNOWN, UNKNOWN, UNKNOWN, UNKNOWN, UNKNOWN},
            {OUTSIDE, 1, 65, 0, 1, 1, NONE, 0, OUTSIDE}, {OUTSIDE, 1, 70, 0, 1, 1, NONE, 4, OUTSIDE},
            {OUTSIDE, 0, 72, 0, 0, 0, 1, NONE, OUTSIDE}, {OUTSIDE, 0, 64, 128, 0, 0, 0, NONE, OUTSIDE},
            {UNKNOWN, UNKNOWN, UNKNOWN, UNKNOWN, UNKNOWN, UNKNOWN, UNKNOWN, UNKNOWN, UNKNOWN}};
        for (int n = -1; n <= 4; n++) {
            for (int what = -1; what <= 7; what++) {
                Due.is("joint(" + n + ", " + what + ")", x.joint(n, what), want[n + 1][what + 1]);
            }
        }
    }

    private static void setsOfAllEvents() {
        Due.part("promise 12, sets of none and of all");
        LeastBars x = Due.with("abcdefgh", "P 0a0 0b0 0c0 0d0 0e0 0f0 0g0 0h0 *0");
        Due.is("all LEAD", x.joint(0, 1), 255);
        Due.is("none CLASHES", x.joint(0, 2), 0);
        Due.is("machine", Due.tell(x, 1, "!a !b !c !d !e !f !g !h *0"), 1);
        Due.is("none LEADS", x.joint(0, 1), 0);
        Due.is("all CLASH", x.joint(0, 2), 255);
        Due.is("by the least", x.why(0, 0, 1), 0);
        x.free(0, 0);
        Due.is("all but a CLASH", x.joint(0, 2), 254);
        Due.is("by the least", x.why(0, 0, 1), 1);
        x = Due.with("", "P 0a1 0b1 0c1 0d1 0e1 0f1 0g1 0h1 *0");
        Due.is("all are BARRED", x.joint(0, 6), 255);
        Due.is("twos", x.many(7), 8);
        Due.is("none happens", x.go(7), NONE);
        x = Due.with("", "P 0a1 0b1 0c1 0d1 0e1 0f1 0g1 0h1 *0 *1");
        Due.is("none is BARRED", x.joint(0, 6), 0);
        Due.is("twos", x.many(7), 0);
    }

    private static void waveZeroIsEmpty() {
        Due.part("terms 3, wave 0, though none be in it");
        LeastBars x = Due.with("", "P 0a1 *0 *1");
        Due.is("many(5)", x.many(5), 1);
        Due.is("many(3)", x.many(3), 0);
        Due.is("wave(-1)", x.wave(-1), UNKNOWN);
        Due.is("wave(0)", x.wave(0), 0);
        Due.is("wave(1)", x.wave(1), UNKNOWN);
        x = Due.with("", "P 0a1 *0");
        Due.is("many(5)", x.many(5), 2);
        Due.is("wave(0)", x.wave(0), 0);
        Due.is("wave(1)", x.wave(1), 1);
        Due.is("wave(2)", x.wave(2), UNKNOWN);
        Due.is("JOINT 1 is of wave 1", x.joint(1, 5), 1);
    }

    private static void waveZeroAlone() {
        Due.part("terms 3, wave 0 alone");
        LeastBars x = Due.with("h", "P 0a1 1h1 *0", "R !h *0");
        Due.is("many(5)", x.many(5), 1);
        Due.is("many(3)", x.many(3), 1);
        Due.is("wave(0)", x.wave(0), 1);
        Due.is("wave(1)", x.wave(1), UNKNOWN);
        Due.is("JOINT 1 is of wave 0", x.joint(1, 5), 0);
    }

    private static void wavesInOrder() {
        Due.part("terms 3, pushed, stuck, pushed again");
        // 5 CLASHES; b pushes 4 there; then 3 is stuck (it had but 4), b pushes 2 there, and 1 is stuck (it had but 2).
        LeastBars x = Due.with("bh", "P 0a1 1a2 2b3 3a4 4b5 5h5 2c0 *0", "R !h *0");
        int[] waves = {NONE, 4, 3, 2, 1, 0};
        int[] reasons = {NONE, 3, 2, 3, 2, 1};
        for (int n = 0; n < 6; n++) {
            Due.is("wave of JOINT " + n, x.joint(n, 5), waves[n]);
            Due.is("reason of JOINT " + n, x.why(n, 0, 0), reasons[n]);
        }
        Due.many(x, 2, 0, 6, 5, 1, 5, 0, 1);
        Due.is("wave(4)", x.wave(4), 1);
        Due.is("wave(5)", x.wave(5), UNKNOWN);
        Due.is("why(2, 1, 0), the chain ends with one that is stuck", x.why(2, 1, 0), 3);
        Due.is("why(2, 2, 0)", x.why(2, 2, 0), NONE);
    }

    private static void oneWaveAtATime() {
        Due.part("terms 3, what is LOST in a wave pushes no other in the same");
        // b leads from 1 to 2, c from both to 3, which CLASHES: both are of wave 1, by c; and the other way round.
        String[] texts = {"P 0a1 1b2 1c3 2c3 3h3 *0", "P 0a1 0d2 1c3 2b1 2c3 3h3 *0"};
        for (String text : texts) {
            LeastBars x = Due.with("bch", text, "R !h *0");
            for (int n = 1; n < 3; n++) {
                Due.is("wave of JOINT " + n, x.joint(n, 5), 1);
                Due.is("by c, JOINT " + n, x.why(n, 0, 1), 2);
            }
            Due.is("wave(1)", x.wave(1), 2);
            Due.is("wave(2)", x.wave(2), UNKNOWN);
        }
        // Without c from 1 it takes a wave more.
        LeastBars x = Due.with("bch", "P 0a1 1b2 2c3 3h3 *0", "R !h *0");
        Due.is("wave(1)", x.wave(1), 1);
        Due.is("wave(2)", x.wave(2), 1);
        Due.is("wave(3)", x.wave(3), UNKNOWN);
        Due.is("by b", x.why(1, 0, 1), 1);
    }

    private static void startIs(String what, LeastBars x, int reason) {
        Due.is(what, x.why(0, 0, 0), reason);
        Due.is(what + ", KEPT", x.joint(0, 3), reason == NONE ? 1 : 0);
        Due.is(what + ", UNDER CONTROL", x.joint(0, 4), reason == NONE ? 1 : 0);
        Due.is(what + ", at()", x.at(), reason == NONE ? 0 : STATE);
        Due.is(what + ", none UNDER CONTROL", x.many(4) == 0 ? 1 : 0, reason == NONE ? 0 : 1);
    }

    private static void startIsLostByEachReason() {
        Due.part("terms 3, START is LOST");
        startIs("by a CLASH", Due.with("h", "P 0h0 0a1 *0 *1", "R !h *0"), 1);
        startIs("pushed", Due.with("ah", "P 0a1 1h1 *0 *1", "R !h *0"), 2);
        startIs("stuck", Due.with("", "P 0a1 1a0"), 3);
        startIs("KEPT, as a can be BARRED", Due.with("h", "P 0a1 1h1 *0 *1", "R !h *0"), NONE);
    }

    private static void keptButNotUnderControl() {
        Due.part("terms 3, UNDER CONTROL");
        LeastBars x = Plants.startLost();
        Due.many(x, 1, 2, 3, 2, 0, 3, 0, 0);
        Due.is("JOINT 1 is KEPT", x.joint(1, 3), 1);
        Due.is("but not UNDER CONTROL", x.joint(1, 4), 0);
        Due.is("BARRED there", x.joint(1, 6), NONE);
        Due.is("word(1, NONE)", x.word(1, NONE), NONE);
        // The only way to JOINT 2 goes over JOINT 1, which CLASHES.
        x = Due.with("h", "P 0a1 1b2 1h1 *0 *2", "R !h *0");
        Due.many(x, 2, 0, 3, 1, 1, 1, 0, 1);
        Due.is("JOINT 2 is KEPT", x.joint(2, 3), 1);
        Due.is("but not UNDER CONTROL", x.joint(2, 4), 0);
        Due.is("BARRED there", x.joint(2, 6), NONE);
        Due.is("a LOST one is not UNDER CONTROL", x.joint(1, 4), 0);
        // The same with another way to it.
        x = Due.with("h", "P 0a1 1b2 0c2 1h1 2d1 *0 *2", "R !h *0");
        Due.is("by another way", x.joint(2, 4), 1);
        Due.is("BARRED there", x.joint(2, 6), 8);
        Due.is("twos", x.many(7), 2);
    }

    private static void hundredAndFiftyWaves() {
        Due.part("terms 3, 150 waves with a JOINT each");
        LeastBars x = Plants.rowThatClashes();
        Due.many(x, 4, 0, 150, 150, 0, 150, 0, 0);
        for (int w = -1; w <= 150; w++) {
            Due.is("wave(" + w + ")", x.wave(w), w < 0 || w > 149 ? UNKNOWN : 1);
        }
        Due.is("JOINT 149", x.joint(149, 5), 0);
        Due.is("JOINT 0", x.joint(0, 5), 149);
        chainToTheLast(x, 1, 7);
    }

    private static void hundredAndFiftyOneWaves() {
        Due.part("terms 3, 150 waves behind an empty one");
        LeastBars x = Plants.rowThatSticks();
        Due.many(x, 3, 0, 150, 150, 0, 151, 0, 0);
        Due.is("wave(0)", x.wave(0), 0);
        for (int w = 1; w <= 150; w++) {
            Due.is("wave(" + w + ")", x.wave(w), 1);
        }
        Due.is("wave(151)", x.wave(151), UNKNOWN);
        Due.is("JOINT 149", x.joint(149, 5), 1);
        Due.is("JOINT 0", x.joint(0, 5), 150);
        chainToTheLast(x, 3, NONE);
    }

    private static void chainToTheLast(LeastBars x, int reasonOfLast, int eventOfLast) {
        int[] places = {0, 1, 5, 29, 147, 148, 149};
        for (int n = 0; n < 3; n++) {
            for (int k : places) {
                int at = n + k;
                Due.is("why(" + n + ", " + k + ", 0)", x.why(n, k, 0), at < 149 ? 2 : at == 149 ? reasonOfLast : NONE);
                Due.is("why(" + n + ", " + k + ", 1)", x.why(n, k, 1),
                    at < 149 ? Plants.onward(at) : at == 149 ? eventOfLast : NONE);
                Due.is("why(" + n + ", " + k + ", 2)", x.why(n, k, 2), at <= 149 ? at : NONE);
            }
        }
        Due.is("why(149, 0, 0)", x.why(149, 0, 0), reasonOfLast);
        Due.is("why(149, 1, 0)", x.why(149, 1, 0), NONE);
        Due.is("why(150, 0, 0)", x.why(150, 0, 0), UNKNOWN);
    }

    private static void whyOnTheEdges() {
        Due.part("promise 13");
        LeastBars x = Plants.going();
        int[] places = {-1, 0, 1, 2, 149, 150};
        int[][][] want = {
            {null, {NONE, NONE, NONE}, {NONE, NONE, NONE}, {NONE, NONE, NONE}, {NONE, NONE, NONE}, null},
            {null, {NONE, NONE, NONE}, {NONE, NONE, NONE}, {NONE, NONE, NONE}, {NONE, NONE, NONE}, null},
            {null, {2, 3, 2}, {1, 7, 3}, {NONE, NONE, NONE}, {NONE, NONE, NONE}, null},
            {null, {1, 7, 3}, {NONE, NONE, NONE}, {NONE, NONE, NONE}, {NONE, NONE, NONE}, null}};
        for (int n = 0; n < 4; n++) {
            for (int i = 0; i < places.length; i++) {
                for (int what = -1; what <= 3; what++) {
                    boolean inside = want[n][i] != null && what >= 0 && what <= 2;
                    Due.is("why(" + n + ", " + places[i] + ", " + what + ")", x.why(n, places[i], what),
                        inside ? want[n][i][what] : OUTSIDE);
                }
            }
        }
        Due.is("why(-1, 0, 0)", x.why(-1, 0, 0), UNKNOWN);
        Due.is("why(4, 0, 0)", x.why(4, 0, 0), UNKNOWN);
        Due.is("why(4, 150, 3)", x.why(4, 150, 3), UNKNOWN);
    }

    private static void sets() {
        Due.part("promise 15, sets");
        LeastBars x = new LeastBars();
        Due.is("no MACHINES: some(-1, 0)", x.some(-1, 0), OUTSIDE);
        Due.is("no MACHINES: some(0, 0)", x.some(0, 0), 1);
        Due.is("no MACHINES: some(0, 1)", x.some(0, 1), 0);
        Due.is("no MACHINES: some(1, 0)", x.some(1, 0), OUTSIDE);
        for (int m = 0; m < 6; m++) {
            int all = (2 << m) - 1;
            Due.tell(x, m % 2, "0" + (char) ('a' + m) + "1 *1");
            Due.is("all of " + (m + 1), x.some(all, 0), 2 << m);
            Due.is("from all of them", x.some(all, 1), 0);
            Due.is("the last alone", x.some(1 << m, 0), 2);
            Due.is("one that there is not", x.some(all + 1, 0), OUTSIDE);
            Due.is("one that there is not", x.some(all + 2, 1), OUTSIDE);
            Due.is("none", x.some(0, 0), 1);
            Due.is("none", x.some(0, 1), 0);
            Due.is("what -1", x.some(0, -1), OUTSIDE);
            Due.is("what 2", x.some(0, 2), OUTSIDE);
            Due.is("-1", x.some(-1, 0), OUTSIDE);
        }
        Due.is("drop()", x.drop(), 5);
        Due.is("the one that is no more", x.some(32, 0), OUTSIDE);
        Due.is("those that are left", x.some(31, 0), 32);
    }

    private static void someOfMany() {
        Due.part("promise 15, 149, 150, 151");
        LeastBars x = Plants.hundredFortyNineAnd(2);
        Due.is("149", x.some(15, 0), 149);
        Due.is("149, all can be finished", x.some(15, 1), 0);
        Due.is("151", x.some(31, 0), NONE);
        Due.is("151", x.some(31, 1), NONE);
        Due.is("what is told ahead of NONE", x.some(31, 2), OUTSIDE);
        Due.is("149 again", x.some(15, 0), 149);
        Due.is("144", x.some(7, 0), 144);
        Due.is("144 * 3", x.some(23, 0), NONE);
        Due.is("it is OVER all the same", x.many(2), NONE);
        x = Plants.hundredFortyNineAnd(1);
        Due.is("150", x.some(31, 0), 150);
        Due.is("150, all can be finished", x.some(31, 1), 0);
        x = Plants.rowThatSticks();
        Due.is("150", x.some(7, 0), 150);
        Due.is("one of 150 cannot be finished", x.some(7, 1), 1);
        x = Plants.rowToFinish();
        Due.is("all of 150 can", x.some(7, 1), 0);
        x.drop();
        Due.tell(x, 0, "0c1 1c2 2c3 3c4");
        Due.is("none of 150 can", x.some(7, 1), 150);
    }

    private static void someIsFreeOfRules() {
        Due.part("promise 15, alone");
        LeastBars x = Due.with("h", "P 0h1 1a0 *0", "R !h *0");
        Due.is("a CLASH is nothing to it", x.some(3, 0), 1);
        Due.is("a CLASH is nothing to it", x.some(3, 1), 0);
        Due.is("START is LOST", x.joint(0, 3), 0);
        Due.is("the PLANT alone", x.some(1, 0), 2);
        Due.is("the RULE alone", x.some(2, 0), 1);
        Due.is("nothing changes", x.joint(0, 1), 0);
        Due.is("nothing changes", x.many(2), 1);
    }
}
