/** Promises 13 to 15, and the waves of part 3. */
public final class WhyTest {
    private static final int MIN = Integer.MIN_VALUE, MAX = Integer.MAX_VALUE, NONE = LeastBars.NONE;

    public static void main(String[] args) {
        why();
        whyRefusals();
        aWaveIsOfThoseLostAhead();
        leastEvents();
        pushedComesAheadOfStuck();
        longChain();
        wave();
        some();
        someRefusals();
        Due.close();
    }

    private static void chain(LeastBars x, int n, int[]... want) {
        for (int k = 0; k < want.length + 2; k++) {
            for (int what = 0; what < 3; what++) {
                int due = k < want.length ? want[k][what] : NONE;
                Due.is("why(" + n + ", " + k + ", " + what + ")", x.why(n, k, what), due);
            }
        }
    }

    private static int[] link(int reason, int event, int joint) {
        return new int[] {reason, event, joint};
    }

    private static void why() {
        Due.part("promise 13");
        LeastBars x = JointsTest.allReasons();
        chain(x, 0);
        chain(x, 1, link(2, 2, 1), link(1, 7, 3));
        chain(x, 2, link(2, 3, 2), link(3, NONE, 4));
        chain(x, 3, link(1, 7, 3));
        chain(x, 4, link(3, NONE, 4));
        x.free(7, 0);
        chain(x, 3, link(3, NONE, 3));
        chain(x, 1, link(3, NONE, 1));
    }

    private static void whyRefusals() {
        Due.part("promise 13, refusals");
        LeastBars x = JointsTest.allReasons();
        int[] joints = {-1, 5, 150, MIN, MAX};
        for (int n : joints) {
            Due.is("why(" + n + ", 0, 0)", x.why(n, 0, 0), LeastBars.UNKNOWN);
            Due.is("unknown ahead of outside", x.why(n, -1, 3), LeastBars.UNKNOWN);
        }
        int[] outside = {-1, 150, MIN, MAX, NONE};
        for (int k : outside) {
            for (int n = 0; n < 2; n++) {
                Due.is("why(" + n + ", " + k + ", 0)", x.why(n, k, 0), LeastBars.OUTSIDE);
                Due.is("why(" + n + ", 0, " + k + ")", x.why(n, 0, k), LeastBars.OUTSIDE);
            }
        }
        Due.is("why(1, 149, 0)", x.why(1, 149, 0), NONE);
        Due.is("why(1, 0, 3)", x.why(1, 0, 3), LeastBars.OUTSIDE);
        Due.is("why(0, 0, 3)", x.why(0, 0, 3), LeastBars.OUTSIDE);
    }

    private static void aWaveIsOfThoseLostAhead() {
        Due.part("terms 3, one wave at a time");
        // 1 goes to 2 by b and to 3 by c; 2 goes to 3 by c: both are of wave 1, and b does not push 1.
        LeastBars x = Due.with("abch", "P 0a1 1b2 1c3 2c3 3h3 *0 *1 *2 *3", "R !h *0");
        Due.many(x, 2, 0, 4, 4, 0, 3, 0, 0);
        chain(x, 1, link(2, 2, 1), link(1, 7, 3));
        chain(x, 2, link(2, 2, 2), link(1, 7, 3));
        chain(x, 0, link(2, 0, 0), link(2, 2, 1), link(1, 7, 3));
        Due.is("wave(0)", x.wave(0), 1);
        Due.is("wave(1)", x.wave(1), 2);
        Due.is("wave(2)", x.wave(2), 1);
        Due.is("wave(3)", x.wave(3), LeastBars.UNKNOWN);
        // The same, but the one to which b leads has the lesser number.
        x = Due.with("bch", "P 0a1 0d2 1c3 2b1 2c3 3h3 *0", "R !h *0");
        chain(x, 1, link(2, 2, 1), link(1, 7, 3));
        chain(x, 2, link(2, 2, 2), link(1, 7, 3));
        Due.is("wave(1)", x.wave(1), 2);
    }

    private static void leastEvents() {
        Due.part("terms 3, the least EVENT");
        LeastBars x = Due.with("bcdgh", "P 0a1 0d1 0c1 1h0 1g1 *0", "R !g !h *0");
        chain(x, 1, link(1, 6, 1));
        chain(x, 0, link(2, 2, 0), link(1, 6, 1));
        Due.is("joint(1, 2)", x.joint(1, 2), 192);
        x.free(6, 0);
        chain(x, 0, link(2, 2, 0), link(1, 7, 1));
    }

    private static void pushedComesAheadOfStuck() {
        Due.part("terms 3, pushed ahead of stuck");
        // 1 is pushed to 2 and cannot be finished either: it is pushed, as that comes first.
        LeastBars x = Due.with("bh", "P 0a1 1b2 2h2 *0", "R !h *0");
        chain(x, 1, link(2, 1, 1), link(1, 7, 2));
        // A FINISHED JOINT that is LOST helps none.
        x = Due.with("h", "P 0a1 1a2 2h2 *2", "R !h *0");
        chain(x, 0, link(3, NONE, 0));
        chain(x, 1, link(3, NONE, 1));
        chain(x, 2, link(1, 7, 2));
        Due.many(x, 2, 0, 3, 3, 0, 2, 0, 0);
        // A way over a LOST one is no way: 1 -> 2 -> 3 (MARKED), and 2 is LOST.
        x = Due.with("h", "P 0a1 1a2 2a3 3a0 2h2 *3 *0", "R !h *0");
        chain(x, 1, link(3, NONE, 1));
        chain(x, 0);
        Due.is("joint(3, 3)", x.joint(3, 3), 1);
        Due.is("joint(3, 4)", x.joint(3, 4), 0);
    }

    private static void longChain() {
        Due.part("promise 13, a long chain");
        // 25 JOINTS in a row (b, then a when b has gone round): each is pushed to the next one.
        LeastBars x = Due.with("abh", "P 0b1 1b2 2b3 3b4 4a0 *0 *1 *2 *3 *4",
            "P 0a1 1a2 2a3 3a4 4h4 *0 *1 *2 *3 *4", "R !h *0");
        Due.is("many(2)", x.many(2), 25);
        Due.is("many(3)", x.many(3), 25);
        Due.is("many(5)", x.many(5), 21);
        Due.is("wave(0)", x.wave(0), 5);
        Due.is("wave(20)", x.wave(20), 1);
        for (int k = 0; k < 20; k++) {
            Due.is("why(0, " + k + ", 0)", x.why(0, k, 0), 2);
            Due.is("why(0, " + k + ", 1)", x.why(0, k, 1), k % 5 == 4 ? 0 : 1);
            Due.is("why(0, " + k + ", 2)", x.why(0, k, 2), k);
        }
        Due.is("why(0, 20, 0)", x.why(0, 20, 0), 1);
        Due.is("why(0, 20, 1)", x.why(0, 20, 1), 7);
        Due.is("why(0, 21, 0)", x.why(0, 21, 0), NONE);
        Due.is("at()", x.at(), LeastBars.STATE);
    }

    private static void wave() {
        Due.part("promise 14");
        LeastBars x = JointsTest.allReasons();
        for (int w = 0; w < 4; w++) {
            Due.is("wave(" + w + ")", x.wave(w), 1);
        }
        int[] wrong = {-1, 4, 150, 151, MIN, MAX};
        for (int w : wrong) {
            Due.is("wave(" + w + ")", x.wave(w), LeastBars.UNKNOWN);
        }
        x.free(7, 0);
        Due.is("wave 0 counts, though none be in it", x.wave(0), 0);
        Due.is("wave(1)", x.wave(1), 3);
        Due.is("wave(2)", x.wave(2), 1);
        Due.is("wave(3)", x.wave(3), LeastBars.UNKNOWN);
        Due.is("many(5)", x.many(5), 3);
    }

    private static void some() {
        Due.part("promise 15");
        // Two that take a and b in another order: each alone can be finished, both block each other.
        LeastBars x = Due.with("", "P 0a1 1b2 0b3 3a4 *2 *4", "P 0a1 1b2 0b3 *2", "R 0b1 1a2 *2", "R !c");
        int[] size = {1, 5, 4, 4, 3, 3, 2, 2};
        int[] stuck = {0, 0, 1, 1, 0, 0, 2, 2};
        for (int set = 0; set < 8; set++) {
            Due.is("some(" + set + ", 0)", x.some(set, 0), size[set]);
            Due.is("some(" + set + ", 1)", x.some(set, 1), stuck[set]);
        }
        Due.is("nothing is MARKED", x.some(8, 1), 1);
        Due.is("nothing is MARKED", x.some(9, 1), 5);
        Due.is("LOST or not is all the same", x.some(15, 0), x.many(2));
        Due.is("nothing changes", x.many(2), 2);
        Due.is("some(1, 0)", x.some(1, 0), 5);
        x.anew();
        Due.tell(x, 0, "0a1");
        Due.is("of the MACHINES that there are now", x.some(1, 0), 2);
        Due.is("of the MACHINES that there are now", x.some(1, 1), 2);
        x.drop();
        Due.tell(x, 0, "0a1 1a2 *1");
        Due.is("of the MACHINES that there are now", x.some(1, 0), 3);
        Due.is("of the MACHINES that there are now", x.some(1, 1), 1);
    }

    private static void someRefusals() {
        Due.part("promise 15, refusals");
        LeastBars x = Due.with("", "P 0a1 *1", "P 0b1 *1");
        int[] sets = {-1, 4, 7, 8, 64, MIN, MAX};
        for (int set : sets) {
            Due.is("some(" + set + ", 0)", x.some(set, 0), LeastBars.OUTSIDE);
        }
        int[] whats = {-1, 2, MIN, MAX};
        for (int what : whats) {
            Due.is("some(0, " + what + ")", x.some(0, what), LeastBars.OUTSIDE);
        }
        for (int m = 2; m < 6; m++) {
            Due.tell(x, 0, "*0");
        }
        Due.is("some(63, 0)", x.some(63, 0), 4);
        Due.is("some(64, 0)", x.some(64, 0), LeastBars.OUTSIDE);
        Due.is("some(60, 0)", x.some(60, 0), 1);
    }
}
