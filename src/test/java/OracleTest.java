import java.util.Arrays;
import java.util.Random;

/** Runs of calls by chance (always the same ones): the class answers as the Oracle does, all promises mixed. */
public final class OracleTest {
    private static final int RUNS = 1500;
    private static final int CALLS = 512;
    private static final int[] EDGES = {Integer.MIN_VALUE, -10, -9, -8, -2, -1, 0, 1, 2, 3, 4, 5, 6, 7, 8, 9,
        59, 60, 63, 64, 127, 128, 149, 150, 151, Integer.MAX_VALUE};

    private final Random random;
    private final LeastBars x = new LeastBars();
    private final Oracle y = new Oracle();
    private int calls = 0;

    private OracleTest(long seed) {
        random = new Random(seed);
    }

    public static void main(String[] args) {
        int[] seen = new int[6];
        for (int run = 0; run < RUNS; run++) {
            Due.part("run " + run);
            new OracleTest(run).run(run % 6, seen);
        }
        Due.holds("some runs were OVER", seen[0] > 10);
        Due.holds("some runs kept some and lost some", seen[1] > 50);
        Due.holds("some runs had four waves or more", seen[2] > 50);
        Due.holds("some runs had sixty JOINTS or more", seen[3] > 20);
        Due.holds("some runs barred something", seen[4] > 50);
        Due.holds("some runs had thirty waves or more", seen[5] > 10);
        System.out.println("runs OVER, in part LOST, with four waves, with many JOINTS, BARRED, with thirty waves: "
            + Arrays.toString(seen));
        Due.close();
    }

    private void run(int style, int[] seen) {
        int rarity = 2 + random.nextInt(5);
        tellMachines(style);
        for (int e = 0; e < 8; e++) {
            if (random.nextInt(rarity) == 0) {
                ask(4, e, 1, 0);
            }
        }
        count(seen);
        while (calls < CALLS) {
            some();
        }
    }

    private void tellMachines(int style) {
        if (style == 3) {
            tell(0, line());
            tell(1, "*0 !h");
            tell(random.nextInt(2), ring(random.nextInt(8)));
            ask(4, 7, 1, 0);
            return;
        }
        if (style == 5) {
            tellCounter();
            return;
        }
        int wanted = 1 + random.nextInt(style == 0 ? 6 : style == 2 ? 2 : 4);
        for (int m = 0; m < wanted; m++) {
            tell(random.nextInt(3) == 0 ? 1 : 0, style == 0 ? ring(m) : style == 2 ? dense(m) : text(style));
        }
        if (style == 2) {
            tell(1, "*0 !" + (char) ('a' + random.nextInt(8)));
        }
    }

    private void count(int[] seen) {
        seen[0] += y.many(2) == Oracle.NONE ? 1 : 0;
        seen[1] += y.many(3) > 0 && y.many(4) > 0 ? 1 : 0;
        seen[2] += y.many(5) >= 4 ? 1 : 0;
        seen[3] += y.many(2) >= 60 ? 1 : 0;
        seen[4] += y.many(7) > 0 ? 1 : 0;
        seen[5] += y.many(5) >= 30 ? 1 : 0;
    }

    /** A MACHINE whose EVENTS are mostly its own, so that there are many JOINTS. */
    private String ring(int m) {
        int size = 2 + random.nextInt(5);
        StringBuilder text = new StringBuilder("*0");
        for (int s = 0; s < size; s++) {
            text.append(' ').append(s).append((char) ('a' + m)).append((s + 1) % size);
        }
        if (random.nextBoolean()) {
            text.append(" !").append((char) ('a' + random.nextInt(8)));
        }
        if (random.nextBoolean()) {
            text.append(' ').append(random.nextInt(size)).append('h').append(random.nextInt(size));
        }
        return text.toString();
    }

    /** A MACHINE with many steps, mostly by EVENTS of its own, so that there are many waves. */
    private String dense(int m) {
        int states = 2 + random.nextInt(5);
        StringBuilder text = new StringBuilder("*0 *1");
        for (int i = 0; i < 13; i++) {
            int s = i % states;
            int e = (m * 3 + i / states) % 8;
            if (random.nextInt(4) > 0) {
                text.append(' ').append(s).append((char) ('a' + e)).append(random.nextInt(states));
            }
        }
        return text.toString();
    }

    /** A row of STATES up to one at which h is stopped, with ways back and aside. */
    private String line() {
        StringBuilder text = new StringBuilder("*0 5h5");
        for (int s = 0; s < 5; s++) {
            int on = random.nextInt(6);
            int aside = on + 1 + random.nextInt(7 - on - 1);
            text.append(' ').append(s).append((char) ('a' + on)).append(s + 1);
            text.append(' ').append(s).append((char) ('a' + aside)).append(random.nextInt(6));
        }
        if (random.nextBoolean()) {
            text.append(" *").append(random.nextInt(6));
        }
        return text.toString();
    }

    /** Up to 150 JOINTS in a row or nearly so (as in Plants), with long WORDS, chains of reasons and many waves. */
    private void tellCounter() {
        tell(0, "0a1 1a2 2a3 3a4 4a5 5b0 5c0" + aside(6, 3));
        tell(0, "0b1 1b2 2b3 3b4 4c0" + aside(5, 5));
        tell(0, "0c1 1c2 2c3 3c4" + aside(5, 5));
        tell(1, "!h *0");
        for (int e = 0; e < 3; e++) {
            ask(4, e, random.nextInt(8) == 0 ? 0 : 1, 0);
        }
        ask(4, 7, random.nextInt(2), 0);
    }

    private String aside(int states, int marks) {
        StringBuilder text = new StringBuilder();
        for (int i = 0; i < marks; i++) {
            text.append(" *").append(random.nextInt(3) == 0 ? random.nextInt(states) : (i + 1) % states);
        }
        text.append(' ').append(states - 1).append('h').append(random.nextInt(states));
        if (random.nextInt(3) == 0) {
            text.append(' ').append(random.nextInt(states)).append((char) ('d' + random.nextInt(2)))
                .append(random.nextInt(states));
        }
        return text.toString();
    }

    private String text(int style) {
        int items = style == 1 ? 1 + random.nextInt(15) : 6 + random.nextInt(9);
        int states = 2 + random.nextInt(style == 4 ? 3 : 5);
        int first = style == 1 ? 0 : random.nextInt(5);
        int events = style == 1 ? 8 : 2 + random.nextInt(3);
        StringBuilder text = new StringBuilder("*").append(random.nextInt(states));
        boolean[] told = new boolean[64];
        for (int i = 1; i < items; i++) {
            int kind = random.nextInt(8);
            int s = random.nextInt(states);
            int e = first + random.nextInt(events);
            text.append(' ');
            if (kind == 0 || told[s * 8 + e]) {
                text.append('*').append(s);
            } else if (kind == 1) {
                text.append('!').append((char) ('a' + e));
            } else {
                text.append(s).append((char) ('a' + e)).append(random.nextInt(states));
                told[s * 8 + e] = true;
            }
        }
        if (random.nextInt(25) == 0) {
            text.setCharAt(random.nextInt(text.length()), "06a i*!5h"
                .charAt(random.nextInt(9)));
        }
        return text.toString();
    }

    private void tell(int kind, String text) {
        ask(1, 0, 0, 0);
        for (int i = 0; i < text.length() && i < 60; i++) {
            ask(0, text.charAt(i), 0, 0);
        }
        ask(2, kind, 0, 0);
    }

    /** A number that is mostly as told, up to a bound. */
    private int number(int bound) {
        return random.nextInt(12) == 0 ? EDGES[random.nextInt(EDGES.length)] : random.nextInt(Math.max(1, bound));
    }

    /** A place in a WORD of a length, or just behind it. */
    private int placeInWord(int length) {
        return random.nextInt(3) == 0 ? Oracle.NONE : number(Math.max(8, length + 2));
    }

    private void some() {
        int joints = Math.max(1, y.many(2));
        int machines = Math.max(1, y.many(0));
        int chance = random.nextInt(200);
        if (chance < 2) {
            tell(number(2), text(random.nextInt(5)));
        } else if (chance < 4) {
            ask(3, 0, 0, 0);
        } else if (chance < 8) {
            ask(4, number(8), number(2), 0);
        } else if (chance == 8 && random.nextInt(4) == 0) {
            ask(5, 0, 0, 0);
        } else if (chance < 12) {
            ask(0, number(128), 0, 0);
        } else if (chance < 14) {
            ask(2, number(2), 0, 0);
        } else {
            look(6 + random.nextInt(15), joints, machines);
        }
    }

    private void look(int call, int joints, int machines) {
        switch (call) {
            case 6: ask(6, number(machines), number(5), 0); break;
            case 7: ask(7, number(machines), number(6), number(8)); break;
            case 8: ask(8, number(joints), number(machines), 0); break;
            case 9: ask(9, number(joints), number(8), 0); break;
            case 10: ask(10, number(joints), number(7), 0); break;
            case 11: ask(11, number(joints), number(random.nextInt(3) == 0 ? 150 : 5), number(3)); break;
            case 12: ask(12, number(y.many(5) + 2), 0, 0); break;
            case 13: ask(13, number(1 << y.many(0)), number(2), 0); break;
            case 17: ask(17, placeInWord(y.finish(Oracle.NONE)), 0, 0); break;
            case 18: askWord(number(joints)); break;
            case 15: ask(random.nextBoolean() ? 15 : 14, number(8), 0, 0); break;
            default: ask(call, number(8), 0, 0); break;
        }
    }

    private void askWord(int n) {
        ask(18, n, placeInWord(y.word(n, Oracle.NONE)), 0);
    }

    private void ask(int call, int a, int b, int c) {
        calls++;
        switch (call) {
            case 0: Due.is("type(" + a + ")", x.type(a), y.type(a)); break;
            case 1: Due.is("wipe()", x.wipe(), y.wipe()); break;
            case 2: Due.is("machine(" + a + ")", x.machine(a), y.machine(a)); break;
            case 3: Due.is("drop()", x.drop(), y.drop()); break;
            case 4: Due.is("free(" + a + ", " + b + ")", x.free(a, b), y.free(a, b)); break;
            case 5: Due.is("anew()", x.anew(), y.anew()); break;
            case 6: Due.is("ofMachine(" + a + ", " + b + ")", x.ofMachine(a, b), y.ofMachine(a, b)); break;
            case 7: Due.is("step(" + a + ", " + b + ", " + c + ")", x.step(a, b, c), y.step(a, b, c)); break;
            case 8: Due.is("stateOf(" + a + ", " + b + ")", x.stateOf(a, b), y.stateOf(a, b)); break;
            case 9: Due.is("leads(" + a + ", " + b + ")", x.leads(a, b), y.leads(a, b)); break;
            case 10: Due.is("joint(" + a + ", " + b + ")", x.joint(a, b), y.joint(a, b)); break;
            case 11: Due.is("why(" + a + ", " + b + ", " + c + ")", x.why(a, b, c), y.why(a, b, c)); break;
            case 12: Due.is("wave(" + a + ")", x.wave(a), y.wave(a)); break;
            case 13: Due.is("some(" + a + ", " + b + ")", x.some(a, b), y.some(a, b)); break;
            case 14: Due.is("go(" + a + ")", x.go(a), y.go(a)); break;
            case 15: Due.is("back()", x.back(), y.back()); break;
            case 16: Due.is("at()", x.at(), y.at()); break;
            case 17: Due.is("finish(" + a + ")", x.finish(a), y.finish(a)); break;
            case 18: Due.is("word(" + a + ", " + b + ")", x.word(a, b), y.word(a, b)); break;
            default: Due.is("many(" + a + ")", x.many(a), y.many(a)); break;
        }
    }
}
