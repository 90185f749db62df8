/** Objects on the boundaries of the document, made alike as often as they are asked for. */
final class Plants {
    /** 60 codes: as long as a TEXT on the TAPE can be. */
    static final String SIXTY = "0a1 1a2 2a3 3a4 4a5 5a0 0b1 1b2 2b3 3b4 4b5 5b0 0c1 !h !g *0";

    private static final String FIRST = "P 0a1 1a2 2a3 3a4 4a5 5b0 5c0";
    private static final String SECOND = "P 0b1 1b2 2b3 3b4 4c0";
    private static final String THIRD = "P 0c1 1c2 2c3 3c4";

    private Plants() {
    }

    /** By which EVENT JOINT n of a row (below) leads to the next: b and c carry, as in a counter of figures 6, 5, 5. */
    static int onward(int n) {
        return n % 6 < 5 ? 0 : n % 30 < 29 ? 1 : 2;
    }

    /** 150 JOINTS in a row, with a CLASH at the last alone and each pushed to the next: 150 waves. */
    static LeastBars rowThatClashes() {
        return Due.with("abch", FIRST + " 5h5 *0 *1 *2 *3 *4 *5", SECOND + " 4h4 *0 *1 *2 *3 *4",
            THIRD + " 4h4 *0 *1 *2 *3 *4", "R !h *0");
    }

    /** 150 JOINTS in a row, with the last alone stuck and each pushed to the next: an empty wave 0, then 150. */
    static LeastBars rowThatSticks() {
        return Due.with("abc", FIRST + " *0 *1 *2 *3 *4", SECOND + " *0 *1 *2 *3 *4", THIRD + " *0 *1 *2 *3 *4");
    }

    /** 150 JOINTS in a row, of which just the last is FINISHED. */
    static LeastBars rowToFinish() {
        return Due.with("", FIRST + " *5", SECOND + " *4", THIRD + " *4");
    }

    /**
     * 149 JOINTS (6 * 6 * 4 by a, b, c, and from START a row of five by d) and as many more, in a row by e, as are
     * asked for; none is LOST.
     */
    static LeastBars hundredFortyNineAnd(int more) {
        String[] rows = {"!e *0", "0e1 *0 *1", "0e1 1e2 *0 *1 *2"};
        return Due.with("", "P 0a1 1a2 2a3 3a4 4a5 5a0 0d0 *0", "P 0b1 1b2 2b3 3b4 4b5 5b0 0d0 *0",
            "P 0c1 1c2 2c3 3c0 0d0 *0", "P 0a0 0b0 0c0 0d1 1d2 2d3 3d4 4d5 5e5 *0 *1 *2 *3 *4 *5", "P " + rows[more]);
    }

    /** 150 JOINTS (MACHINES 0, 1, 2, 4 alone would have more), one EVENT that happened, a code on the TAPE. */
    static LeastBars mostJoints() {
        LeastBars x = hundredFortyNineAnd(1);
        x.go(0);
        x.type('*');
        return x;
    }

    /** Five JOINTS in a ring, by a. */
    static LeastBars ring() {
        return Due.with("", "P 0a1 1a2 2a3 3a4 4a0 *0");
    }

    /**
     * The plant is at JOINT 1 and has three EVENTS behind it; JOINT 3 CLASHES by h, JOINT 2 is pushed there by d, c
     * is BARRED at JOINT 1; the TAPE has five codes and ends too soon.
     */
    static LeastBars going() {
        LeastBars x = Due.with("dh", "P 0a1 1b0 1c2 2d3 3h3 *0 *1", "R !h 0g0 *0");
        x.go(0);
        x.go(1);
        x.go(0);
        Due.type(x, "0a1 *");
        return x;
    }

    /** Six MACHINES, a TAPE of sixty codes, the plant with one EVENT behind it. */
    static LeastBars full() {
        LeastBars x = Due.with("b", "P 0a1 1a0 *0", "R *0", "P *0", "R !c *0", "P 0b0 *0", "R *0 *1");
        x.go(0);
        Due.type(x, SIXTY);
        return x;
    }

    /** As full(), but no TEXT is on the TAPE. */
    static LeastBars fullWithFault() {
        LeastBars x = full();
        x.wipe();
        Due.type(x, "0a1 0a2");
        return x;
    }

    /** START is LOST (c pushes it to JOINT 2, which is stuck), JOINT 1 is KEPT; a TEXT is on the TAPE. */
    static LeastBars startLost() {
        LeastBars x = Due.with("c", "P 0a1 1b1 0c2 *1");
        Due.type(x, "*0");
        return x;
    }

    /** It is OVER: there are no JOINTS; a TEXT is on the TAPE. */
    static LeastBars over() {
        LeastBars x = hundredFortyNineAnd(2);
        Due.type(x, "*0");
        return x;
    }

    /** Seventeen EVENTS happened: sixteen can be taken back. */
    static LeastBars farGone() {
        LeastBars x = ring();
        for (int i = 0; i < 17; i++) {
            x.go(0);
        }
        return x;
    }
}
