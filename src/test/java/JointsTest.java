/** Promises 10 to 12, and the terms of part 2. */
public final class JointsTest {
    private static final int MIN = Integer.MIN_VALUE, MAX = Integer.MAX_VALUE, NONE = LeastBars.NONE;

    public static void main(String[] args) {
        stateOf();
        leads();
        alphabetsJoin();
        numbersByEventsInOrder();
        joint();
        clash();
        barred();
        exactlyTheMost();
        over();
        Due.close();
    }

    /** 0 1 of each, b shared: JOINTS 0 (0,0), 1 (1,0), 2 (0,1), 3 (1,1), 4 (2,2). */
    private static LeastBars twoThatShare() {
        return Due.with("", "P 0a1 1b2 *2", "P 0c1 1b2 *2");
    }

    private static void stateOf() {
        Due.part("promise 10");
        LeastBars x = twoThatShare();
        int[][] want = {{0, 0}, {1, 0}, {0, 1}, {1, 1}, {2, 2}};
        for (int n = 0; n < want.length; n++) {
            for (int m = 0; m < 2; m++) {
                Due.is("stateOf(" + n + ", " + m + ")", x.stateOf(n, m), want[n][m]);
            }
        }
        int[] wrong = {-1, 5, 150, MIN, MAX};
        for (int k : wrong) {
            Due.is("stateOf(" + k + ", 0)", x.stateOf(k, 0), LeastBars.UNKNOWN);
            Due.is("stateOf(0, " + k + ")", x.stateOf(0, k), LeastBars.UNKNOWN);
        }
        Due.is("stateOf(0, 2)", x.stateOf(0, 2), LeastBars.UNKNOWN);
    }

    private static void leads() {
        Due.part("promise 11");
        LeastBars x = twoThatShare();
        int[][] want = {{1, NONE, 2}, {NONE, NONE, 3}, {3, NONE, NONE}, {NONE, 4, NONE}, {NONE, NONE, NONE}};
        for (int n = 0; n < want.length; n++) {
            for (int e = 0; e < 8; e++) {
                Due.is("leads(" + n + ", " + e + ")", x.leads(n, e), e < 3 ? want[n][e] : NONE);
            }
        }
        int[] wrong = {-1, 8, 150, MIN, MAX};
        for (int k : wrong) {
            Due.is("leads(" + k + ", 0)", x.leads(k, 0), LeastBars.UNKNOWN);
            Due.is("leads(0, " + k + ")", x.leads(0, k), LeastBars.UNKNOWN);
        }
        Due.is("leads(5, 0)", x.leads(5, 0), LeastBars.UNKNOWN);
    }

    private static void alphabetsJoin() {
        Due.part("promise 11, alphabets");
        LeastBars x = Due.with("", "P 0a1 *1", "R !a *0");
        Due.many(x, 2, 0, 1);
        Due.is("an ALPHABET without a step stops it", x.leads(0, 0), NONE);
        x = Due.with("", "P !a *0", "R !a *0");
        Due.is("no MACHINE has a step", x.leads(0, 0), NONE);
        x = Due.with("", "P 0a0 *0");
        Due.is("a step to itself", x.leads(0, 0), 0);
    }

    private static void numbersByEventsInOrder() {
        Due.part("promise 10, numbers");
        LeastBars x = Due.with("", "P 0h1 0c2 0a3 2b4 3a5 *0");
        int[] want = {0, 3, 2, 1, 5, 4};
        for (int n = 0; n < 6; n++) {
            Due.is("stateOf(" + n + ", 0)", x.stateOf(n, 0), want[n]);
        }
    }

    /** JOINTS: 0 and 1, 2 (by a, b); 3 behind 1 by c; 4 behind 2 by d; h is stopped at 3. */
    static LeastBars allReasons() {
        return Due.with("cdh", "P 0a1 0b2 1c3 2d4 2e0 3h0 *0", "R !h *0");
    }

    private static void joint() {
        Due.part("promise 12");
        LeastBars x = allReasons();
        int[][] want = {
            {1, 3, 0, 1, 1, NONE, 3},
            {0, 4, 0, 0, 0, 1, NONE},
            {0, 24, 0, 0, 0, 3, NONE},
            {0, 0, 128, 0, 0, 0, NONE},
            {0, 0, 0, 0, 0, 2, NONE}};
        for (int n = 0; n < want.length; n++) {
            for (int what = 0; what < 7; what++) {
                Due.is("joint(" + n + ", " + what + ")", x.joint(n, what), want[n][what]);
            }
        }
        int[] wrong = {-1, 7, 150, MIN, MAX};
        for (int k : wrong) {
            Due.is("joint(" + k + ", 0)", x.joint(k, 0), LeastBars.UNKNOWN);
            Due.is("unknown ahead of outside", x.joint(k, k), LeastBars.UNKNOWN);
            Due.is("joint(0, " + k + ")", x.joint(0, k), LeastBars.OUTSIDE);
        }
        Due.is("joint(5, 0)", x.joint(5, 0), LeastBars.UNKNOWN);
        x = Due.with("", "P 0a1 *0 *1", "R 0a1 *1");
        Due.is("FINISHED asks for each MACHINE", x.joint(0, 0), 0);
        Due.is("all MARKED", x.joint(1, 0), 1);
    }

    private static void clash() {
        Due.part("promise 12, CLASH");
        LeastBars x = Due.with("", "P 0a0 *0", "R !a *0");
        Due.is("what can be BARRED does not CLASH", x.joint(0, 2), 0);
        x.free(0, 1);
        Due.is("a CLASH", x.joint(0, 2), 1);
        x = Due.with("ab", "P 0a0 *0 0b0", "P !a *0", "R !a *0 !b");
        Due.is("a PLANT without the step hinders it", x.joint(0, 2), 2);
        x = Due.with("a", "R 0a0 *0", "R !a *0");
        Due.is("no PLANT has it", x.joint(0, 2), 0);
        x = Due.with("a", "P 0a0 *0", "P !a *0");
        Due.is("no RULE has it", x.joint(0, 2), 0);
        x = Due.with("a", "P 0a0 *0", "R 0a0 *0", "R !a *0");
        Due.is("one RULE of several", x.joint(0, 2), 1);
        x = Due.with("a", "P 0a0 *0", "R 0a0 *0", "R !b *0");
        Due.is("all RULES that have it have a step", x.joint(0, 2), 0);
        x = Due.with("abcdefgh", "P 0a0 0c0 0h0 *0", "R !a !b !c !h *0");
        Due.is("several", x.joint(0, 2), 133);
    }

    private static void barred() {
        Due.part("promise 12, BARRED");
        LeastBars x = Due.with("", "P 0a1 0b2 0c0 1a0 2d3 *0");
        Due.is("JOINT 2 is stuck", x.joint(2, 3), 0);
        Due.is("b is BARRED", x.joint(0, 6), 2);
        Due.is("none is BARRED", x.joint(1, 6), 0);
        Due.is("none UNDER CONTROL", x.joint(2, 6), NONE);
        x = Due.with("c", "P 0a1 1b2 2b2 0c3 3c3 *2");
        Due.is("KEPT", x.joint(1, 3), 1);
        Due.is("but not UNDER CONTROL, for START is LOST", x.joint(1, 4), 0);
        Due.is("nothing is BARRED there", x.joint(1, 6), NONE);
        Due.is("START", x.joint(0, 4), 0);
    }

    /** Three MACHINES with 6, 5, 5 STATES and EVENTS of their own. */
    private static LeastBars hundredAndFifty() {
        return Due.with("", "P 0a1 1a2 2a3 3a4 4a5 5a0 *0 0d0", "P 0b1 1b2 2b3 3b4 4b0 *0 0d0",
            "P 0c1 1c2 2c3 3c4 4c0 *0 0d0");
    }

    private static void exactlyTheMost() {
        Due.part("terms 2, 150 JOINTS");
        LeastBars x = hundredAndFifty();
        Due.many(x, 3, 0, 150, 0, 150, 1, 0, 0);
        Due.is("joint(149, 4)", x.joint(149, 4), 1);
        Due.is("joint(150, 4)", x.joint(150, 4), LeastBars.UNKNOWN);
        Due.is("the last that is met", x.stateOf(149, 0) * 100 + x.stateOf(149, 1) * 10 + x.stateOf(149, 2), 544);
        Due.is("word", x.word(149, NONE), 13);
        Due.is("some(7, 0)", x.some(7, 0), 150);
        Due.is("some(7, 1)", x.some(7, 1), 0);
    }

    private static void over() {
        Due.part("terms 2, OVER");
        LeastBars x = hundredAndFifty();
        x.go(0);
        // One JOINT more, from which nothing LEADS.
        Due.is("machine", Due.tell(x, 1, "0a0 0b0 0c0 0d1 *0"), 3);
        Due.many(x, 4, 0, NONE, 0, 0, 0, 0, 0);
        Due.is("joint(0, 0)", x.joint(0, 0), LeastBars.UNKNOWN);
        Due.is("joint(0, 9)", x.joint(0, 9), LeastBars.UNKNOWN);
        Due.is("stateOf(0, 0)", x.stateOf(0, 0), LeastBars.UNKNOWN);
        Due.is("leads(0, 0)", x.leads(0, 0), LeastBars.UNKNOWN);
        Due.is("why(0, 0, 0)", x.why(0, 0, 0), LeastBars.UNKNOWN);
        Due.is("wave(0)", x.wave(0), LeastBars.UNKNOWN);
        Due.is("go(0)", x.go(0), LeastBars.STATE);
        Due.is("go(8)", x.go(8), LeastBars.UNKNOWN);
        Due.is("back()", x.back(), LeastBars.STATE);
        Due.is("at()", x.at(), LeastBars.STATE);
        Due.is("finish(0)", x.finish(0), LeastBars.STATE);
        Due.is("finish(150)", x.finish(150), LeastBars.OUTSIDE);
        Due.is("word(0, 0)", x.word(0, 0), LeastBars.UNKNOWN);
        Due.is("ofMachine(3, 1)", x.ofMachine(3, 1), 15);
        Due.is("some(15, 0)", x.some(15, 0), NONE);
        Due.is("some(15, 1)", x.some(15, 1), NONE);
        Due.is("some(7, 0)", x.some(7, 0), 150);
        x.free(3, 1);
        Due.many(x, 4, 0, NONE, 0, 0, 0, 0, 0);
        Due.is("drop()", x.drop(), 3);
        Due.many(x, 3, 0, 150, 0, 150, 1, 0, 0);
    }
}
