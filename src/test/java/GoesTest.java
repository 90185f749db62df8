/** Promises 16 to 21. */
public final class GoesTest {
    private static final int MIN = Integer.MIN_VALUE, MAX = Integer.MAX_VALUE, NONE = LeastBars.NONE;

    public static void main(String[] args) {
        go();
        startIsLost();
        back();
        at();
        finish();
        firstOfTheShortest();
        word();
        wordsGoAroundWhatIsLost();
        many();
        Due.close();
    }

    private static void go() {
        Due.part("promise 16");
        LeastBars x = Due.with("", "P 0a1 1b0 0c2 0d0 *0", "R !e *0");
        Due.is("go(0)", x.go(0), 1);
        Due.is("it does not LEAD there", x.go(0), NONE);
        Due.is("at()", x.at(), 1);
        Due.is("many(6)", x.many(6), 1);
        Due.is("go(1)", x.go(1), 0);
        Due.is("c is BARRED", x.go(2), NONE);
        Due.is("e does not LEAD", x.go(4), NONE);
        Due.is("h is in no ALPHABET", x.go(7), NONE);
        Due.is("at()", x.at(), 0);
        Due.is("many(6)", x.many(6), 2);
        Due.is("a step to itself happens", x.go(3), 0);
        Due.is("many(6)", x.many(6), 3);
        int[] wrong = {-1, 8, MIN, MAX};
        for (int e : wrong) {
            Due.is("go(" + e + ")", x.go(e), LeastBars.UNKNOWN);
        }
        Due.is("many(6)", x.many(6), 3);
    }

    private static void startIsLost() {
        Due.part("promises 16 to 20, START is LOST");
        LeastBars x = Due.with("", "P 0a1 1a1");
        Due.many(x, 1, 0, 2, 2, 0, 2, 0, 0);
        Due.is("go(8)", x.go(8), LeastBars.UNKNOWN);
        Due.is("go(0)", x.go(0), LeastBars.STATE);
        Due.is("go(5)", x.go(5), LeastBars.STATE);
        Due.is("back()", x.back(), LeastBars.STATE);
        Due.is("at()", x.at(), LeastBars.STATE);
        Due.is("finish(NONE)", x.finish(NONE), LeastBars.STATE);
        Due.is("finish(0)", x.finish(0), LeastBars.STATE);
        Due.is("outside ahead of state", x.finish(150), LeastBars.OUTSIDE);
        Due.is("outside ahead of state", x.finish(-1), LeastBars.OUTSIDE);
        Due.is("word(0, NONE)", x.word(0, NONE), NONE);
        Due.is("word(0, 0)", x.word(0, 0), NONE);
        Due.is("word(0, 150)", x.word(0, 150), LeastBars.OUTSIDE);
        Due.is("word(2, 150)", x.word(2, 150), LeastBars.UNKNOWN);
    }

    private static void back() {
        Due.part("promise 17");
        LeastBars x = Due.with("", "P 0a1 1a2 2a3 3a4 4a0 *0");
        Due.is("back()", x.back(), LeastBars.STATE);
        for (int i = 1; i <= 20; i++) {
            Due.is("go " + i, x.go(0), i % 5);
            Due.is("many(6)", x.many(6), Math.min(i, 16));
        }
        Due.is("go(1)", x.go(1), NONE);
        for (int i = 19; i >= 4; i--) {
            Due.is("back to " + i, x.back(), i % 5);
            Due.is("many(6)", x.many(6), i - 4);
            Due.is("at()", x.at(), i % 5);
        }
        Due.is("no more than 16", x.back(), LeastBars.STATE);
        Due.is("at()", x.at(), 4);
        Due.is("go(0)", x.go(0), 0);
        Due.is("back()", x.back(), 4);
        Due.is("back()", x.back(), LeastBars.STATE);
        x.go(0);
        x.free(7, 0);
        Due.is("begun anew", x.back(), LeastBars.STATE);
        Due.is("at()", x.at(), 0);
        x.go(0);
        x.anew();
        Due.is("begun anew", x.back(), LeastBars.STATE);
    }

    private static void at() {
        Due.part("promise 18");
        LeastBars x = Due.with("", "P 0a1 1b2 2c0 *0");
        Due.is("at()", x.at(), 0);
        x.go(0);
        Due.is("at()", x.at(), 1);
        x.go(1);
        Due.is("at()", x.at(), 2);
        x.some(1, 1);
        x.word(1, 0);
        x.type('0');
        x.wipe();
        x.drop();
        Due.is("at()", x.at(), 0);
        Due.is("machine", Due.tell(x, 0, "*1"), 0);
        Due.is("at()", x.at(), LeastBars.STATE);
        x.anew();
        Due.is("at()", x.at(), 0);
    }

    private static void wordIs(String call, LeastBars x, int n, String want) {
        for (int k = NONE; k < 6; k = k == NONE ? 0 : k + 1) {
            int due = k == NONE ? want.length() : k < want.length() ? want.charAt(k) - 'a' : NONE;
            int got = n < 0 ? x.finish(k) : x.word(n, k);
            Due.is(call + " (" + k + ")", got, due);
        }
    }

    private static void finish() {
        Due.part("promise 19");
        LeastBars x = Due.with("", "P 0c1 1b2 2a3 3h0 *3 0d0");
        wordIs("finish from 0", x, -1, "cba");
        x.go(2);
        wordIs("finish from 1", x, -1, "ba");
        x.go(1);
        x.go(0);
        wordIs("finish from 3", x, -1, "");
        x.go(7);
        wordIs("finish from 0", x, -1, "cba");
        Due.is("finish(149)", x.finish(149), NONE);
        int[] wrong = {-1, -8, -10, 150, MIN, MAX};
        for (int k : wrong) {
            Due.is("finish(" + k + ")", x.finish(k), LeastBars.OUTSIDE);
        }
        // The way that is shorter goes to a JOINT from which a FREE EVENT pushes to a CLASH.
        x = Due.with("gh", "P 0a1 1a5 1g2 2h2 0b3 3b4 4b5 *5", "R !h *0");
        wordIs("finish around", x, -1, "bbb");
    }

    private static void firstOfTheShortest() {
        Due.part("terms 4, the first WORD");
        LeastBars x = Due.with("", "P 0b1 0c2 1d4 2a4 0a3 3h5 5a4 *4");
        wordIs("the lesser first EVENT, of those as long", x, -1, "bd");
        x = Due.with("", "P 0a1 1b2 1c3 2a2 *2 *3 0h0");
        wordIs("one of two FINISHED ones", x, -1, "ab");
        x = Due.with("", "P 0b1 0d1 1h2 1g2 *2");
        wordIs("of EVENTS that lead to the same", x, -1, "bg");
    }

    private static void word() {
        Due.part("promise 20");
        LeastBars x = Due.with("", "P 0b1 0c2 1d4 2a4 0a3 3h5 5a4 4b0 *0");
        String[] want = {"", "a", "b", "c", "ah", "bd"};
        for (int n = 0; n < 6; n++) {
            wordIs("word(" + n + ")", x, n, want[n]);
        }
        x.go(1);
        wordIs("from START, wherever the plant is", x, 5, "bd");
        int[] joints = {-1, 6, 150, MIN, MAX};
        for (int n : joints) {
            Due.is("word(" + n + ", 0)", x.word(n, 0), LeastBars.UNKNOWN);
            Due.is("unknown ahead of outside", x.word(n, -1), LeastBars.UNKNOWN);
        }
        int[] wrong = {-1, -8, -10, 150, MIN, MAX};
        for (int k : wrong) {
            Due.is("word(0, " + k + ")", x.word(0, k), LeastBars.OUTSIDE);
        }
        Due.is("word(5, 149)", x.word(5, 149), NONE);
    }

    private static void wordsGoAroundWhatIsLost() {
        Due.part("promise 20, around what is LOST");
        LeastBars x = Due.with("gh", "P 0a1 1a5 1g2 2h2 0b3 3b4 4b5 *5", "R !h *0");
        Due.is("stateOf(3, 0)", x.stateOf(3, 0), 5);
        wordIs("word(3)", x, 3, "bbb");
        Due.is("a LOST one has none", x.word(1, NONE), NONE);
        Due.is("a LOST one has none", x.word(1, 0), NONE);
        Due.is("outside ahead of that", x.word(1, 150), LeastBars.OUTSIDE);
    }

    private static void many() {
        Due.part("promise 21");
        LeastBars x = JointsTest.allReasons();
        Due.type(x, "xyz");
        Due.many(x, 2, 3, 5, 4, 1, 4, 0, 2);
        int[] wrong = {-1, 8, MIN, MAX, NONE};
        for (int what : wrong) {
            Due.is("many(" + what + ")", x.many(what), LeastBars.OUTSIDE);
        }
        x = Due.with("", "P 0a1 1a0 0b2 1b2 1c2 *0");
        Due.many(x, 1, 0, 3, 1, 2, 2, 0, 3);
        x.go(0);
        Due.many(x, 1, 0, 3, 1, 2, 2, 1, 3);
        x.back();
        Due.many(x, 1, 0, 3, 1, 2, 2, 0, 3);
    }
}
