/** Promises 1 to 9. */
public final class MachinesTest {
    private static final int MIN = Integer.MIN_VALUE, MAX = Integer.MAX_VALUE;

    public static void main(String[] args) {
        newObject();
        type();
        wipe();
        machineByItsText();
        machineFaults();
        machineRefusals();
        machineBeginsAnew();
        drop();
        free();
        anew();
        ofMachine();
        step();
        Due.close();
    }

    private static void newObject() {
        Due.part("promise 1");
        LeastBars x = new LeastBars();
        Due.many(x, 0, 0, 1, 0, 1, 1, 0, 0);
        Due.is("ofMachine(0, 0)", x.ofMachine(0, 0), LeastBars.UNKNOWN);
        Due.is("joint(0, 0)", x.joint(0, 0), 1);
        Due.is("joint(0, 3)", x.joint(0, 3), 1);
        Due.is("joint(0, 4)", x.joint(0, 4), 1);
        Due.is("at()", x.at(), 0);
        Due.is("finish(NONE)", x.finish(LeastBars.NONE), 0);
        for (int e = 0; e < 8; e++) {
            Due.is("free(" + e + ", 0)", x.free(e, 0), 0);
        }
        Due.is("wipe()", x.wipe(), 0);
    }

    private static void type() {
        Due.part("promise 2");
        LeastBars x = new LeastBars();
        int[] outside = {-1, 128, 129, MIN, MAX};
        for (int code : outside) {
            Due.is("type(" + code + ")", x.type(code), LeastBars.OUTSIDE);
        }
        Due.is("many(1)", x.many(1), 0);
        Due.is("type(0)", x.type(0), 1);
        Due.is("type(127)", x.type(127), 2);
        for (int i = 3; i <= 60; i++) {
            Due.is("type " + i, x.type('a'), i);
        }
        Due.is("type: full", x.type('a'), LeastBars.FULL);
        Due.is("type: outside ahead of full", x.type(128), LeastBars.OUTSIDE);
        Due.is("many(1)", x.many(1), 60);
        Due.is("the first code is no TEXT's", x.machine(0), -100);
    }

    private static void wipe() {
        Due.part("promise 3");
        LeastBars x = new LeastBars();
        Due.type(x, "0a1");
        Due.is("wipe()", x.wipe(), 3);
        Due.is("wipe()", x.wipe(), 0);
        Due.is("many(1)", x.many(1), 0);
        Due.is("type('*')", x.type('*'), 1);
        Due.is("type('2')", x.type('2'), 2);
        Due.is("machine(1)", x.machine(1), 0);
        Due.is("ofMachine(0, 2)", x.ofMachine(0, 2), 4);
        for (int i = 0; i < 70; i++) {
            x.type(7);
        }
        Due.is("wipe()", x.wipe(), 60);
        Due.is("type(0)", x.type(0), 1);
    }

    private static void machineByItsText() {
        Due.part("promise 4, texts");
        LeastBars x = new LeastBars();
        String[] texts = {"*5", "!h", "0a0", "0a1 0a1", "0a1 *1 !h *1 !h !a 5h5"};
        for (int m = 0; m < texts.length; m++) {
            Due.is("machine " + texts[m], Due.tell(x, m % 2, texts[m]), m);
            Due.is("many(1)", x.many(1), 0);
            Due.is("many(0)", x.many(0), m + 1);
        }
        String sixty = "0a1 1a2 2a3 3a4 4a5 5a0 0b1 1b2 2b3 3b4 4b5 5b0 0c1 !h !g *0";
        Due.is("length", sixty.length(), 60);
        Due.is("machine of sixty codes", Due.tell(x, 0, sixty), 5);
        Due.is("steps", x.ofMachine(5, 3), 13);
        Due.is("the last ITEM is told", x.ofMachine(5, 2), 1);
    }

    private static void fault(String text, int place) {
        LeastBars x = new LeastBars();
        Due.tell(x, 1, "*0");
        for (int kind = 0; kind < 2; kind++) {
            Due.is("machine '" + text + "'", Due.tell(x, kind, text), -100 - place);
            Due.is("many(1) behind '" + text + "'", x.many(1), text.length());
            Due.is("many(0) behind '" + text + "'", x.many(0), 1);
        }
    }

    private static void machineFaults() {
        Due.part("promise 4, faults");
        fault("", 0);
        fault(" ", 0);
        fault("6a1", 0);
        fault("/a1", 0);
        fault("a", 0);
        fault("0", 1);
        fault("0i1", 1);
        fault("0`1", 1);
        fault("0 ", 1);
        fault("00", 1);
        fault("0A1", 1);
        fault("0a", 2);
        fault("0a6", 2);
        fault("0a/", 2);
        fault("0aa", 2);
        fault("0a ", 2);
        fault("*", 1);
        fault("*6", 1);
        fault("*a", 1);
        fault("**", 1);
        fault("!", 1);
        fault("!i", 1);
        fault("!0", 1);
        fault("0a1 ", 4);
        fault("0a1  ", 4);
        fault("0a1*", 3);
        fault("*0!", 2);
        fault("!a*", 2);
        fault("0a1 0a2", 6);
        fault("0a1 1a1 0a0 zz", 10);
        fault("0a1 0a1 0a3", 10);
        fault("0a2 0a", 6);
        fault("!a 0a1 *0 0a2", 12);
        fault("0a1\t0a1", 3);
        fault("0a1 0b1 0c1 0d1 0e1 0f1 0g1 0h1 1a1 1b1 1c1 1d1 1e1 1f1 1g1 ", 60);
    }

    private static void machineRefusals() {
        Due.part("promise 4, refusals");
        LeastBars x = new LeastBars();
        Due.type(x, "0a1");
        int[] kinds = {-1, 2, MIN, MAX};
        for (int kind : kinds) {
            Due.is("machine(" + kind + ")", x.machine(kind), LeastBars.OUTSIDE);
        }
        Due.is("many(1)", x.many(1), 3);
        for (int m = 0; m < 6; m++) {
            Due.is("machine", Due.tell(x, 0, "*0"), m);
        }
        Due.type(x, "zz");
        Due.is("full ahead of the fault", x.machine(0), LeastBars.FULL);
        Due.is("outside ahead of full", x.machine(2), LeastBars.OUTSIDE);
        Due.is("many(1)", x.many(1), 2);
        Due.is("full", Due.tell(x, 1, "*0"), LeastBars.FULL);
        Due.is("many(1)", x.many(1), 2);
        Due.is("drop()", x.drop(), 5);
        Due.is("machine(1)", x.machine(1), 5);
    }

    private static void machineBeginsAnew() {
        Due.part("promise 4, begins anew");
        LeastBars x = Due.with("", "P 0a1 1a0 *0 *1");
        Due.is("go(0)", x.go(0), 1);
        Due.is("a fault changes nothing", Due.tell(x, 0, "0"), -101);
        Due.is("machine(2) changes nothing", x.machine(2), LeastBars.OUTSIDE);
        Due.is("at()", x.at(), 1);
        Due.is("many(6)", x.many(6), 1);
        Due.is("machine", Due.tell(x, 1, "*0"), 1);
        Due.is("at()", x.at(), 0);
        Due.is("many(6)", x.many(6), 0);
        Due.is("back()", x.back(), LeastBars.STATE);
    }

    private static void drop() {
        Due.part("promise 5");
        LeastBars x = new LeastBars();
        Due.is("drop()", x.drop(), LeastBars.STATE);
        x = Due.with("b", "P 0a1 *0 *1", "R 0b2 *0 *2");
        Due.type(x, "0c");
        Due.is("go(0)", x.go(0), 1);
        Due.is("drop()", x.drop(), 1);
        Due.many(x, 1, 2, 2, 0, 2, 1, 0, 0);
        Due.is("at()", x.at(), 0);
        Due.is("ofMachine(1, 0)", x.ofMachine(1, 0), LeastBars.UNKNOWN);
        Due.is("ofMachine(0, 1)", x.ofMachine(0, 1), 1);
        Due.is("b stays FREE", x.free(1, 1), 1);
        Due.is("drop()", x.drop(), 0);
        Due.many(x, 0, 2, 1, 0, 1, 1, 0, 0);
        Due.is("drop()", x.drop(), LeastBars.STATE);
        Due.is("wipe()", x.wipe(), 2);
        Due.is("numbers come again", Due.tell(x, 1, "3h4"), 0);
        Due.is("nothing of the one before", x.ofMachine(0, 1), 128);
        Due.is("nothing of the one before", x.ofMachine(0, 2), 0);
        Due.is("nothing of the one before", x.ofMachine(0, 3), 1);
        Due.is("nothing of the one before", x.step(0, 0, 0), LeastBars.NONE);
        x.drop();
        Due.tell(x, 1, "0b1");
        Due.is("nothing of the one before", x.ofMachine(0, 4), 1);
        Due.is("nothing of the one before", x.joint(0, 1), 2);
    }

    private static void free() {
        Due.part("promise 6");
        LeastBars x = Due.with("", "P 0a1 *0 *1 1a0", "R !b *0");
        int[] unknown = {-1, 8, MIN, MAX};
        for (int e : unknown) {
            Due.is("free(" + e + ", 1)", x.free(e, 1), LeastBars.UNKNOWN);
            Due.is("unknown ahead of outside", x.free(e, 2), LeastBars.UNKNOWN);
        }
        int[] outside = {-1, 2, MIN, MAX};
        Due.is("go(0)", x.go(0), 1);
        for (int v : outside) {
            Due.is("free(0, " + v + ")", x.free(0, v), LeastBars.OUTSIDE);
        }
        Due.is("refusals change nothing", x.at(), 1);
        for (int e = 0; e < 8; e++) {
            Due.is("free(" + e + ", 1)", x.free(e, 1), 0);
        }
        for (int e = 0; e < 8; e++) {
            Due.is("free(" + e + ", 1) again", x.free(e, 1), 1);
        }
        Due.is("free(3, 0)", x.free(3, 0), 1);
        Due.is("free(3, 0)", x.free(3, 0), 0);
        Due.is("free(4, 1)", x.free(4, 1), 1);
        Due.is("go(0)", x.go(0), 1);
        Due.is("free tells what was", x.free(4, 1), 1);
        Due.is("and begins anew all the same", x.at(), 0);
        Due.is("many(6)", x.many(6), 0);
    }

    private static void anew() {
        Due.part("promise 7");
        LeastBars x = Due.with("abcdefgh", "P 0a1 *0", "R *0", "R *1");
        Due.type(x, "*0 ");
        Due.is("anew()", x.anew(), 3);
        Due.many(x, 0, 3, 1, 0, 1, 1, 0, 0);
        for (int e = 0; e < 8; e++) {
            Due.is("free(" + e + ", 0)", x.free(e, 0), 0);
        }
        Due.is("anew()", x.anew(), 0);
        Due.is("ofMachine(0, 0)", x.ofMachine(0, 0), LeastBars.UNKNOWN);
        Due.is("wipe()", x.wipe(), 3);
        Due.is("machine", Due.tell(x, 1, "0b1"), 0);
        Due.is("drop()", x.drop(), 0);
        Due.is("no EVENT is in an ALPHABET", x.joint(0, 1), 0);
        x = Due.with("", "P 0a1 *0");
        x.anew();
        x.free(0, 1);
        Due.tell(x, 1, "!a *0");
        Due.is("no PLANT is there: no CLASH", x.joint(0, 2), 0);
    }

    private static void ofMachine() {
        Due.part("promise 8");
        LeastBars x = Due.with("", "P 0a1 1b2 0a1 *2 !h", "R *4 *0 0c3", "R !d", "P 5a0", "R 1b0 *5");
        int[][] want = {{0, 131, 4, 2, 2}, {1, 4, 17, 1, 4}, {1, 8, 0, 0, 0}, {0, 1, 0, 1, 5}, {1, 2, 32, 1, 5}};
        for (int m = 0; m < want.length; m++) {
            for (int what = 0; what < 5; what++) {
                Due.is("ofMachine(" + m + ", " + what + ")", x.ofMachine(m, what), want[m][what]);
            }
        }
        int[] wrong = {-1, 5, MIN, MAX};
        for (int k : wrong) {
            Due.is("ofMachine(" + k + ", 0)", x.ofMachine(k, 0), LeastBars.UNKNOWN);
            Due.is("unknown ahead of outside", x.ofMachine(k, k), LeastBars.UNKNOWN);
            Due.is("ofMachine(0, " + k + ")", x.ofMachine(0, k), LeastBars.OUTSIDE);
        }
    }

    private static void step() {
        Due.part("promise 9");
        LeastBars x = Due.with("", "P 0a1 1b2 5h5 !c", "R *0");
        for (int s = 0; s < 6; s++) {
            for (int e = 0; e < 8; e++) {
                int want = s == 0 && e == 0 ? 1 : s == 1 && e == 1 ? 2 : s == 5 && e == 7 ? 5 : LeastBars.NONE;
                Due.is("step(0, " + s + ", " + e + ")", x.step(0, s, e), want);
            }
        }
        Due.is("step(1, 0, 0)", x.step(1, 0, 0), LeastBars.NONE);
        int[] wrong = {-1, MIN, MAX};
        for (int k : wrong) {
            Due.is("step(" + k + ", 0, 0)", x.step(k, 0, 0), LeastBars.UNKNOWN);
            Due.is("step(0, " + k + ", 0)", x.step(0, k, 0), LeastBars.UNKNOWN);
            Due.is("step(0, 0, " + k + ")", x.step(0, 0, k), LeastBars.UNKNOWN);
        }
        Due.is("step(2, 0, 0)", x.step(2, 0, 0), LeastBars.UNKNOWN);
        Due.is("step(0, 6, 0)", x.step(0, 6, 0), LeastBars.UNKNOWN);
        Due.is("step(0, 0, 8)", x.step(0, 0, 8), LeastBars.UNKNOWN);
    }
}
