/** The boundary cases of promises 16 to 21 and of part 4 of the terms. */
public final class GoEdgesTest {
    private static final int UNKNOWN = LeastBars.UNKNOWN, OUTSIDE = LeastBars.OUTSIDE, STATE = LeastBars.STATE,
        NONE = LeastBars.NONE;
    private static final int[] PLACES = {-1, NONE - 1, NONE + 1, 150};

    public static void main(String[] args) {
        eventsOnTheEdges();
        whatDoesNotHappen();
        startIsNotUnderControl();
        fifteenToEighteenBack();
        roundTheRowOfSixteen();
        backOfStepsToItself();
        atWhereThePlantIs();
        finishAtOnce();
        finishAfter149();
        finishOnTheEdges();
        wordToStart();
        wordOf149();
        wordOnTheEdges();
        wordOfWhatIsNotUnderControl();
        lesserEventAtTheFirstPlace();
        manyOnTheEdges();
        manyOfNothing();
        manyThatCanBeTakenBack();
        Due.close();
    }

    private static void eventsOnTheEdges() {
        Due.part("promise 16, EVENTS 0 .. 7");
        LeastBars x = Due.with("", "P 0a1 0h2 1a0 2h0 *0");
        Due.is("go(-1)", x.go(-1), UNKNOWN);
        Due.is("go(8)", x.go(8), UNKNOWN);
        Due.is("go(0)", x.go(0), 1);
        Due.is("go(0)", x.go(0), 0);
        Due.is("go(7)", x.go(7), 2);
        Due.is("go(6)", x.go(6), NONE);
        Due.is("go(7)", x.go(7), 0);
        Due.is("many(6)", x.many(6), 4);
    }

    private static void whatDoesNotHappen() {
        Due.part("promise 16, NONE");
        LeastBars x = Plants.going();
        int[] not = {0, 2, 3, 4, 5, 7};
        for (int e : not) {
            Due.is("go(" + e + ")", x.go(e), NONE);
            Due.is("at()", x.at(), 1);
            Due.is("many(6)", x.many(6), 3);
        }
        Due.is("g LEADS", x.go(6), 1);
        Due.is("b LEADS", x.go(1), 0);
        Due.is("many(6)", x.many(6), 5);
        Due.is("no MACHINE", new LeastBars().go(0), NONE);
        x = Due.with("", "P 0a1 *0");
        Due.is("a is BARRED", x.go(0), NONE);
        Due.is("machine", Due.tell(x, 0, "0a1 *0 *1"), 1);
        Due.is("a is BARRED still", x.go(0), NONE);
        x = Due.with("", "P 0a1 *0 *1");
        Due.is("a is not BARRED", x.go(0), 1);
    }

    private static void startIsNotUnderControl() {
        Due.part("promises 16 to 19, START is not UNDER CONTROL");
        LeastBars x = Plants.startLost();
        Due.is("an EVENT that LEADS to a KEPT one", x.go(0), STATE);
        Due.is("an EVENT that LEADS to a LOST one", x.go(2), STATE);
        Due.is("an EVENT that does not LEAD", x.go(7), STATE);
        Due.is("no EVENT", x.go(8), UNKNOWN);
        Due.is("no EVENT", x.go(-1), UNKNOWN);
        Due.is("at()", x.at(), STATE);
        Due.is("back()", x.back(), STATE);
        Due.is("finish(NONE)", x.finish(NONE), STATE);
        Due.is("finish(0)", x.finish(0), STATE);
        Due.is("finish(149)", x.finish(149), STATE);
        for (int k : PLACES) {
            Due.is("finish(" + k + ")", x.finish(k), OUTSIDE);
        }
        Due.many(x, 1, 2, 3, 2, 0, 3, 0, 0);
        Due.is("c can be BARRED", x.free(2, 0), 1);
        Due.is("at()", x.at(), 0);
        Due.is("go(2)", x.go(2), NONE);
        Due.is("go(0)", x.go(0), 1);
        Due.is("c is FREE again", x.free(2, 1), 0);
        Due.is("at()", x.at(), STATE);
        Due.is("nothing can be taken back", x.back(), STATE);
        Due.is("many(6)", x.many(6), 0);
    }

    private static void fifteenToEighteenBack() {
        Due.part("promise 17, the last 16");
        for (int happened = 0; happened <= 18; happened++) {
            LeastBars x = Plants.ring();
            for (int i = 1; i <= happened; i++) {
                Due.is("go(0)", x.go(0), i % 5);
            }
            int can = Math.min(happened, 16);
            Due.is("many(6) behind " + happened, x.many(6), can);
            for (int i = 1; i <= can; i++) {
                Due.is("back " + i + " of " + happened, x.back(), (happened - i) % 5);
                Due.is("many(6)", x.many(6), can - i);
            }
            Due.is("one more of " + happened, x.back(), STATE);
            Due.is("and again", x.back(), STATE);
            Due.is("it stays", x.at(), (happened - can) % 5);
            Due.is("many(6)", x.many(6), 0);
        }
    }

    private static void roundTheRowOfSixteen() {
        Due.part("promise 17, round and round");
        LeastBars x = Plants.ring();
        int at = 0;
        int can = 0;
        for (int round = 1; round <= 12; round++) {
            for (int i = 0; i < round; i++) {
                at++;
                can = Math.min(16, can + 1);
                Due.is("go(0)", x.go(0), at % 5);
            }
            Due.is("many(6)", x.many(6), can);
            for (int i = 0; i < round / 2; i++) {
                at--;
                can--;
                Due.is("back()", x.back(), at % 5);
            }
            Due.is("many(6)", x.many(6), can);
        }
        while (can > 0) {
            at--;
            can--;
            Due.is("back()", x.back(), at % 5);
        }
        Due.is("back()", x.back(), STATE);
        Due.is("at()", x.at(), at % 5);
    }

    private static void backOfStepsToItself() {
        Due.part("promise 17, steps to the same JOINT");
        LeastBars x = Due.with("", "P 0a0 *0");
        Due.is("go(0)", x.go(0), 0);
        Due.is("go(0)", x.go(0), 0);
        Due.is("it happened", x.many(6), 2);
        Due.is("it is taken back", x.back(), 0);
        Due.is("it is taken back", x.back(), 0);
        Due.is("no more", x.back(), STATE);
        Due.is("at()", x.at(), 0);
    }

    private static void atWhereThePlantIs() {
        Due.part("promise 18");
        LeastBars x = Plants.rowToFinish();
        for (int n = 0; n < 149; n++) {
            Due.is("at()", x.at(), n);
            Due.is("go", x.go(Plants.onward(n)), n + 1);
        }
        Due.is("the last", x.at(), 149);
        Due.is("no EVENT LEADS from there", x.go(0), NONE);
        Due.is("it stays", x.at(), 149);
        Due.is("back()", x.back(), 148);
        Due.is("no MACHINE", new LeastBars().at(), 0);
    }

    private static void finishAtOnce() {
        Due.part("promise 19, a WORD of no EVENTS");
        LeastBars x = Due.with("", "P 0a1 1a0 *0");
        Due.is("how many", x.finish(NONE), 0);
        Due.is("EVENT 0", x.finish(0), NONE);
        Due.is("EVENT 149", x.finish(149), NONE);
        x.go(0);
        Due.is("one", x.finish(NONE), 1);
        Due.is("EVENT 0", x.finish(0), 0);
        Due.is("EVENT 1", x.finish(1), NONE);
        Due.is("no MACHINE", new LeastBars().finish(NONE), 0);
    }

    private static void finishAfter149() {
        Due.part("promise 19, a WORD of 149 EVENTS");
        LeastBars x = Plants.rowToFinish();
        Due.is("how many", x.finish(NONE), 149);
        for (int k = 0; k < 149; k++) {
            Due.is("EVENT " + k, x.finish(k), Plants.onward(k));
        }
        Due.is("EVENT 149", x.finish(149), NONE);
        Due.is("EVENT 150", x.finish(150), OUTSIDE);
        Due.is("go(0)", x.go(0), 1);
        Due.is("how many", x.finish(NONE), 148);
        Due.is("EVENT 147", x.finish(147), Plants.onward(148));
        Due.is("EVENT 148", x.finish(148), NONE);
        Due.is("EVENT 149", x.finish(149), NONE);
        for (int n = 1; n < 149; n++) {
            x.go(Plants.onward(n));
        }
        Due.is("at()", x.at(), 149);
        Due.is("how many", x.finish(NONE), 0);
        Due.is("EVENT 0", x.finish(0), NONE);
    }

    private static void finishOnTheEdges() {
        Due.part("promise 19, k");
        LeastBars x = Plants.going();
        for (int k : PLACES) {
            Due.is("finish(" + k + ")", x.finish(k), OUTSIDE);
        }
        Due.is("finish(NONE)", x.finish(NONE), 0);
        Due.is("finish(0)", x.finish(0), NONE);
        Due.is("finish(149)", x.finish(149), NONE);
    }

    private static void wordToStart() {
        Due.part("promise 20, a WORD of no EVENTS");
        LeastBars x = Plants.ring();
        Due.is("how many", x.word(0, NONE), 0);
        Due.is("EVENT 0", x.word(0, 0), NONE);
        Due.is("EVENT 149", x.word(0, 149), NONE);
        x.go(0);
        Due.is("wherever the plant is", x.word(0, NONE), 0);
        Due.is("one", x.word(1, NONE), 1);
        Due.is("EVENT 0", x.word(1, 0), 0);
        Due.is("EVENT 1", x.word(1, 1), NONE);
        Due.is("no MACHINE", new LeastBars().word(0, NONE), 0);
    }

    private static void wordOf149() {
        Due.part("promise 20, a WORD of 149 EVENTS");
        LeastBars x = Plants.rowToFinish();
        Due.is("to 148", x.word(148, NONE), 148);
        Due.is("to 149", x.word(149, NONE), 149);
        Due.is("to 150", x.word(150, NONE), UNKNOWN);
        for (int k = 0; k < 149; k++) {
            Due.is("EVENT " + k, x.word(149, k), Plants.onward(k));
        }
        Due.is("EVENT 149", x.word(149, 149), NONE);
        Due.is("EVENT 150", x.word(149, 150), OUTSIDE);
        Due.is("EVENT 147 to 148", x.word(148, 147), Plants.onward(147));
        Due.is("EVENT 148 to 148", x.word(148, 148), NONE);
        Due.is("EVENT 149 to 148", x.word(148, 149), NONE);
    }

    private static void wordOnTheEdges() {
        Due.part("promise 20, n and k");
        LeastBars x = Plants.going();
        for (int n = -1; n <= 4; n++) {
            boolean known = n >= 0 && n <= 3;
            for (int k : PLACES) {
                Due.is("word(" + n + ", " + k + ")", x.word(n, k), known ? OUTSIDE : UNKNOWN);
            }
            Due.is("word(" + n + ", NONE)", x.word(n, NONE), !known ? UNKNOWN : n < 2 ? n : NONE);
            Due.is("word(" + n + ", 0)", x.word(n, 0), !known ? UNKNOWN : n == 1 ? 0 : NONE);
            Due.is("word(" + n + ", 149)", x.word(n, 149), !known ? UNKNOWN : NONE);
        }
    }

    private static void wordOfWhatIsNotUnderControl() {
        Due.part("promise 20, NONE");
        LeastBars x = Plants.startLost();
        for (int n = 0; n < 3; n++) {
            Due.is("word(" + n + ", NONE)", x.word(n, NONE), NONE);
            Due.is("word(" + n + ", 0)", x.word(n, 0), NONE);
            Due.is("OUTSIDE ahead of it", x.word(n, 150), OUTSIDE);
        }
        Due.is("UNKNOWN ahead of all", x.word(3, 150), UNKNOWN);
    }

    private static void lesserEventAtTheFirstPlace() {
        Due.part("terms 4, of several as long");
        // To STATE 3: ah over STATE 1, ba over STATE 2; the first place tells, though h is greater than a.
        LeastBars x = Due.with("", "P 0a1 0b2 1h3 2a3 3c0 *0");
        Due.is("first place", x.word(3, 0), 0);
        Due.is("second place, though it be greater", x.word(3, 1), 7);
        // A shorter one with greater EVENTS is ahead of all.
        x = Due.with("", "P 0a1 1a2 0h2 2a3 *3");
        Due.is("the shortest first", x.finish(NONE), 2);
        Due.is("the shortest first", x.finish(0), 7);
        // Two FINISHED ones as far away: the lesser EVENT, not the lesser number of the JOINT, tells.
        x = Due.with("", "P 0b1 0a2 1a3 2h4 *3 *4 3c0 4c0");
        Due.is("first place", x.finish(0), 0);
        Due.is("second place", x.finish(1), 7);
        // Two EVENTS to the same JOINT.
        x = Due.with("", "P 0g1 0h1 1c2 1b2 *2");
        Due.is("the lesser", x.finish(0), 6);
        Due.is("the lesser", x.finish(1), 1);
        Due.is("the lesser", x.word(2, 1), 1);
        // The lesser EVENT is BARRED (it leads to a JOINT that is stuck).
        x = Due.with("", "P 0a4 0b1 1a2 *2");
        Due.is("the greater, as a is BARRED", x.finish(0), 1);
        Due.is("a is BARRED", x.go(0), NONE);
    }

    private static void manyOnTheEdges() {
        Due.part("promise 21, what 0 .. 7");
        LeastBars x = Plants.going();
        Due.is("many(-1)", x.many(-1), OUTSIDE);
        Due.many(x, 2, 5, 4, 2, 2, 2, 3, 1);
        Due.is("many(8)", x.many(8), OUTSIDE);
        x = Plants.full();
        Due.is("many(-1)", x.many(-1), OUTSIDE);
        Due.many(x, 6, 60, 2, 0, 2, 1, 1, 0);
        Due.is("many(8)", x.many(8), OUTSIDE);
        x = Plants.hundredFortyNineAnd(1);
        Due.many(x, 5, 0, 150, 0, 150, 1, 0, 0);
    }

    private static void manyOfNothing() {
        Due.part("promise 21, OVER and START LOST");
        LeastBars x = Plants.over();
        Due.many(x, 5, 2, NONE, 0, 0, 0, 0, 0);
        Due.is("many(8)", x.many(8), OUTSIDE);
        x = Plants.startLost();
        // b would be BARRED at JOINT 1, were it UNDER CONTROL.
        Due.many(x, 1, 2, 3, 2, 0, 3, 0, 0);
        x = Due.with("c", "P 0a1 1b2 1d1 0c2 *1");
        Due.is("JOINT 1 is KEPT", x.joint(1, 3), 1);
        Due.many(x, 1, 0, 3, 2, 0, 3, 0, 0);
    }

    private static void manyThatCanBeTakenBack() {
        Due.part("promise 21, EVENTS that can be taken back");
        LeastBars x = Plants.farGone();
        Due.is("16 of 17", x.many(6), 16);
        Due.is("back()", x.back(), 1);
        Due.is("15", x.many(6), 15);
        Due.is("go(0)", x.go(0), 2);
        Due.is("16", x.many(6), 16);
        Due.is("go(0)", x.go(0), 3);
        Due.is("16 still", x.many(6), 16);
        Due.is("free(7, 0)", x.free(7, 0), 0);
        Due.is("begun anew", x.many(6), 0);
    }
}
