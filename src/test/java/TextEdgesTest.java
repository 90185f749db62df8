/** The boundary cases of promises 1 to 9 and of part 1 of the terms: on each boundary, and one step to either side. */
public final class TextEdgesTest {
    private static final int UNKNOWN = LeastBars.UNKNOWN, OUTSIDE = LeastBars.OUTSIDE, STATE = LeastBars.STATE,
        FULL = LeastBars.FULL, NONE = LeastBars.NONE;

    public static void main(String[] args) {
        aNewObject();
        codesOfTheTape();
        lengthOfTheTape();
        wipeOfNoneOneAndSixty();
        firstCodeOfAnItem();
        letters();
        figures();
        blanks();
        endsTooSoon();
        faultAtEachPlace();
        theFirstOfTwoFaults();
        stepsToldAgain();
        longTexts();
        aFaultKeepsTheTape();
        kinds();
        sixMachines();
        dropToNone();
        freeOnTheEdges();
        anewOfNoneOneAndSix();
        nothingOfTheOneBefore();
        greatestState();
        alphabetWithoutSteps();
        stepsOnTheEdges();
        whatBeginsAnew();
        fiveHundredAndTwelveCalls();
        Due.close();
    }

    /** What machine() answers to a TEXT on a new object. */
    private static int read(String text) {
        LeastBars x = new LeastBars();
        Due.type(x, text);
        return x.machine(0);
    }

    private static void aNewObject() {
        Due.part("promise 1");
        LeastBars x = new LeastBars();
        Due.many(x, 0, 0, 1, 0, 1, 1, 0, 0);
        Due.is("no MACHINES", x.ofMachine(0, 0), UNKNOWN);
        Due.is("nothing to read", x.machine(0), -100);
        Due.is("nothing to wipe", x.wipe(), 0);
        int[] start = {1, 0, 0, 1, 1, NONE, 0};
        for (int what = 0; what < 7; what++) {
            Due.is("START, " + what, x.joint(0, what), start[what]);
        }
        Due.is("START is the only JOINT", x.joint(1, 0), UNKNOWN);
        Due.is("START of no MACHINES has no STATE", x.stateOf(0, 0), UNKNOWN);
        for (int e = 0; e < 8; e++) {
            Due.is("nothing LEADS", x.leads(0, e), NONE);
            Due.is("nothing happens", x.go(e), NONE);
            Due.is("none is FREE", x.free(e, 0), 0);
        }
        LeastBars other = new LeastBars();
        other.free(0, 1);
        Due.type(other, "*0");
        other.machine(0);
        Due.many(new LeastBars(), 0, 0, 1, 0, 1, 1, 0, 0);
        Due.is("objects share nothing", new LeastBars().free(0, 0), 0);
    }

    private static void codesOfTheTape() {
        Due.part("promise 2, codes 0 .. 127");
        int[] codes = {-1, 0, 1, 126, 127, 128};
        int[] want = {OUTSIDE, 1, 2, 3, 4, OUTSIDE};
        LeastBars x = new LeastBars();
        for (int i = 0; i < codes.length; i++) {
            Due.is("type(" + codes[i] + ")", x.type(codes[i]), want[i]);
        }
        Due.is("what was refused is not on the TAPE", x.many(1), 4);
    }

    private static void lengthOfTheTape() {
        Due.part("promise 2, 60 codes");
        LeastBars x = new LeastBars();
        for (int i = 1; i <= 60; i++) {
            Due.is("type " + i, x.type(Plants.SIXTY.charAt(i - 1)), i);
            Due.is("many(1)", x.many(1), i);
        }
        Due.is("type 61", x.type(' '), FULL);
        Due.is("type 62", x.type(' '), FULL);
        Due.is("many(1)", x.many(1), 60);
        Due.is("OUTSIDE is told ahead of FULL", x.type(128), OUTSIDE);
        Due.is("the code that was refused is not read", x.machine(0), 0);
        Due.is("and there is room again", x.type(' '), 1);
        x.wipe();
        Due.type(x, Plants.SIXTY);
        Due.is("full once more", x.type('0'), FULL);
        Due.is("wipe()", x.wipe(), 60);
        Due.is("and there is room again", x.type('0'), 1);
    }

    private static void wipeOfNoneOneAndSixty() {
        Due.part("promise 3");
        LeastBars x = new LeastBars();
        Due.is("of none", x.wipe(), 0);
        x.type('0');
        Due.is("of one", x.wipe(), 1);
        Due.is("of none again", x.wipe(), 0);
        Due.type(x, Plants.SIXTY.substring(1));
        Due.is("of 59", x.wipe(), 59);
        Due.type(x, Plants.SIXTY);
        Due.is("of 60", x.wipe(), 60);
        Due.type(x, Plants.SIXTY + "0");
        Due.is("of 60, one refused", x.wipe(), 60);
        Due.is("many(1)", x.many(1), 0);
        Due.is("nothing of it is read", x.machine(0), -100);
    }

    private static void firstCodeOfAnItem() {
        Due.part("terms 1, the first code of an ITEM");
        for (int code = 0; code < 128; code++) {
            boolean opens = code == '*' || code == '!' || code >= '0' && code <= '5';
            String sign = String.valueOf((char) code);
            Due.is("first of all " + code, read(sign), opens ? -101 : -100);
            Due.is("behind a blank " + code, read("*0 " + sign), opens ? -104 : -103);
        }
    }

    private static void letters() {
        Due.part("terms 1, letters a .. h");
        for (int code = 0; code < 128; code++) {
            boolean fits = code >= 'a' && code <= 'h';
            String sign = String.valueOf((char) code);
            Due.is("in a step " + code, read("0" + sign + "0"), fits ? 0 : -101);
            Due.is("behind ! " + code, read("!" + sign), fits ? 0 : -101);
        }
    }

    private static void figures() {
        Due.part("terms 1, figures 0 .. 5");
        for (int code = 0; code < 128; code++) {
            boolean fits = code >= '0' && code <= '5';
            String sign = String.valueOf((char) code);
            Due.is("to a STATE " + code, read("0a" + sign), fits ? 0 : -102);
            Due.is("MARKED " + code, read("*" + sign), fits ? 0 : -101);
        }
    }

    private static void blanks() {
        Due.part("terms 1, one blank between each two");
        for (int code = 0; code < 128; code++) {
            String sign = String.valueOf((char) code);
            Due.is("behind a step " + code, read("0a0" + sign + "*0"), code == ' ' ? 0 : -103);
            Due.is("behind a mark " + code, read("*0" + sign + "*0"), code == ' ' ? 0 : -102);
            Due.is("behind a name " + code, read("!a" + sign + "*0"), code == ' ' ? 0 : -102);
        }
        Due.is("none", read("*0*1"), -102);
        Due.is("one", read("*0 *1"), 0);
        Due.is("two", read("*0  *1"), -103);
        Due.is("ahead of all", read(" *0"), -100);
        Due.is("behind all", read("*0 "), -103);
        Due.is("two behind all", read("*0  "), -103);
        Due.is("alone", read(" "), -100);
    }

    private static void endsTooSoon() {
        Due.part("terms 1, a TEXT that just ends too soon");
        String text = "0a1 *2 !h 5h5";
        boolean[] whole = new boolean[text.length() + 1];
        whole[3] = whole[6] = whole[9] = whole[13] = true;
        for (int length = 0; length <= text.length(); length++) {
            String head = text.substring(0, length);
            Due.is("'" + head + "'", read(head), whole[length] ? 0 : -100 - length);
        }
        String steps = Plants.SIXTY.substring(0, 52);
        Due.is("59 codes", read(steps + "!h !g *"), -159);
        String[] ends = {"0d1 0e1 ", "0d1 !h *", "0d1 !h !", "0d1 !h 5", "!h !g 5h"};
        for (String end : ends) {
            Due.is("60 codes", steps.length() + end.length(), 60);
            Due.is("60 codes that end with '" + end + "'", read(steps + end), -160);
        }
    }

    /** SIXTY, but with a wrong code at each place in turn. */
    private static void faultAtEachPlace() {
        Due.part("terms 1, places 0 .. 59");
        for (int place = 0; place < 60; place++) {
            StringBuilder text = new StringBuilder(Plants.SIXTY);
            text.setCharAt(place, 'z');
            Due.is("place " + place, read(text.toString()), -100 - place);
        }
    }

    private static void theFirstOfTwoFaults() {
        Due.part("terms 1, the first of several faults");
        Due.is("two", read("0z1 z"), -101);
        Due.is("whatever comes behind it", read("0a1 z*0 0a2"), -104);
        Due.is("a step told otherwise ahead of another", read("0a1 0a2 zzz"), -106);
        Due.is("another ahead of a step told otherwise", read("0a1 z0a2"), -104);
        Due.is("a fault ahead of the end", read("z"), -100);
        Due.is("a fault at the last place", read("0a1 *6"), -105);
    }

    private static void stepsToldAgain() {
        Due.part("terms 1, a step that is told again");
        LeastBars x = new LeastBars();
        Due.is("the same", Due.tell(x, 0, "0a1 0a1 0a1"), 0);
        Due.is("it is one step", x.ofMachine(0, 3), 1);
        Due.is("it leads as it did", x.step(0, 0, 0), 1);
        for (int to = 0; to < 6; to++) {
            Due.is("0a1, then 0a" + to, read("0a1 0a" + to), to == 1 ? 0 : -106);
            Due.is("5h0, then 5h" + to, read("5h0 5h" + to), to == 0 ? 0 : -106);
        }
        Due.is("of another EVENT", read("0a1 0b2"), 0);
        Due.is("of another STATE", read("0a1 1a2"), 0);
        Due.is("far behind", read("0a1 *0 !a 1a1 0a2"), -116);
        Due.is("before its figure it can still be the same", read("0a1 0a"), -106);
        Due.is("a MACHINE's steps are no other's", Due.tell(x, 0, "0a2"), 1);
        Due.is("after a fault nothing of it is left", Due.tell(x, 0, "3b4 z"), -104);
        Due.is("so the step can be told otherwise", Due.tell(x, 0, "3b5"), 2);
        Due.is("step(2, 3, 1)", x.step(2, 3, 1), 5);
        Due.is("one step", x.ofMachine(2, 3), 1);
    }

    private static void longTexts() {
        Due.part("terms 1, as many codes as there can be");
        LeastBars x = new LeastBars();
        String steps = "0a1 0b1 0c1 0d1 0e1 0f1 0g1 0h1 5a0 5b0 5c0 5d0 5e0 5f0 5g5";
        Due.is("59 codes", steps.length(), 59);
        Due.is("fifteen steps", Due.tell(x, 0, steps), 0);
        Due.is("how many steps", x.ofMachine(0, 3), 15);
        Due.is("60 codes", Due.tell(x, 1, Plants.SIXTY), 1);
        Due.is("its last ITEM counts", x.ofMachine(1, 2), 1);
        Due.is("its last name counts", x.ofMachine(1, 1), 199);
        Due.is("how many steps", x.ofMachine(1, 3), 13);
        Due.is("one code of an ITEM is not there", Due.tell(x, 1, steps + " *0"), -160);
        Due.is("it is still on the TAPE", x.many(1), 60);
    }

    private static void aFaultKeepsTheTape() {
        Due.part("promise 4, the TAPE");
        LeastBars x = new LeastBars();
        Due.type(x, "0a1 *");
        Due.is("a fault", x.machine(1), -105);
        Due.is("again", x.machine(0), -105);
        Due.is("the TAPE stays", x.many(1), 5);
        Due.is("one code more", x.type('1'), 6);
        Due.is("then it is a TEXT", x.machine(1), 0);
        Due.is("the TAPE is empty", x.many(1), 0);
        Due.is("what was told ahead counts", x.step(0, 0, 0), 1);
        Due.is("what was told behind counts", x.ofMachine(0, 2), 2);
        Due.is("an empty TAPE", x.machine(0), -100);
    }

    private static void kinds() {
        Due.part("promise 4, kinds 0, 1");
        LeastBars x = new LeastBars();
        Due.type(x, "*0");
        Due.is("machine(-1)", x.machine(-1), OUTSIDE);
        Due.is("machine(2)", x.machine(2), OUTSIDE);
        Due.is("machine(0)", x.machine(0), 0);
        Due.type(x, "*0");
        Due.is("machine(1)", x.machine(1), 1);
        Due.is("a PLANT", x.ofMachine(0, 0), 0);
        Due.is("a RULE", x.ofMachine(1, 0), 1);
        Due.is("OUTSIDE is told ahead of the fault", x.machine(2), OUTSIDE);
    }

    private static void sixMachines() {
        Due.part("promise 4, 6 MACHINES");
        LeastBars x = new LeastBars();
        for (int m = 0; m < 6; m++) {
            Due.is("machine " + m, Due.tell(x, 0, "*" + m), m);
            Due.is("many(0)", x.many(0), m + 1);
        }
        Due.is("the seventh", Due.tell(x, 0, "*0"), FULL);
        Due.is("its TAPE stays", x.many(1), 2);
        x.wipe();
        Due.is("FULL is told ahead of the fault", x.machine(0), FULL);
        Due.is("OUTSIDE is told ahead of FULL", x.machine(2), OUTSIDE);
        for (int m = 0; m < 6; m++) {
            Due.is("MACHINE " + m + " is as it was", x.ofMachine(m, 2), 1 << m);
        }
        Due.is("drop()", x.drop(), 5);
        Due.is("the sixth again", Due.tell(x, 1, "!a"), 5);
        Due.is("it is the new one", x.ofMachine(5, 2), 0);
        Due.is("the seventh again", Due.tell(x, 1, "!a"), FULL);
    }

    private static void dropToNone() {
        Due.part("promise 5");
        LeastBars x = Plants.full();
        for (int left = 5; left >= 0; left--) {
            Due.is("drop()", x.drop(), left);
            Due.is("many(0)", x.many(0), left);
            Due.is("it is no more", x.ofMachine(left, 0), UNKNOWN);
            Due.is("its STATE is no more", x.stateOf(0, left), UNKNOWN);
        }
        Due.is("there is none", x.drop(), STATE);
        Due.is("there is none", x.drop(), STATE);
        Due.many(x, 0, 60, 1, 0, 1, 1, 0, 0);
        Due.is("b stays FREE", x.free(1, 1), 1);
    }

    private static void freeOnTheEdges() {
        Due.part("promise 6");
        LeastBars x = new LeastBars();
        int[] events = {-1, 0, 7, 8};
        for (int e : events) {
            boolean known = e >= 0 && e <= 7;
            Due.is("free(" + e + ", -1)", x.free(e, -1), known ? OUTSIDE : UNKNOWN);
            Due.is("free(" + e + ", 2)", x.free(e, 2), known ? OUTSIDE : UNKNOWN);
            Due.is("free(" + e + ", 0)", x.free(e, 0), known ? 0 : UNKNOWN);
            Due.is("free(" + e + ", 1)", x.free(e, 1), known ? 0 : UNKNOWN);
            Due.is("free(" + e + ", 1) again", x.free(e, 1), known ? 1 : UNKNOWN);
            Due.is("free(" + e + ", 2) changes nothing", x.free(e, 2), known ? OUTSIDE : UNKNOWN);
            Due.is("free(" + e + ", 0)", x.free(e, 0), known ? 1 : UNKNOWN);
            Due.is("free(" + e + ", 0) again", x.free(e, 0), known ? 0 : UNKNOWN);
        }
        x.free(0, 1);
        for (int e = 1; e < 8; e++) {
            Due.is("of one EVENT alone", x.free(e, 0), 0);
        }
        Due.is("of one EVENT alone", x.free(0, 0), 1);
    }

    private static void anewOfNoneOneAndSix() {
        Due.part("promise 7");
        LeastBars x = new LeastBars();
        Due.is("of none", x.anew(), 0);
        Due.tell(x, 0, "0a1");
        Due.is("of one", x.anew(), 1);
        Due.is("of none again", x.anew(), 0);
        x = Plants.full();
        Due.is("of six", x.anew(), 6);
        Due.many(x, 0, 60, 1, 0, 1, 1, 0, 0);
        for (int e = 0; e < 8; e++) {
            Due.is("none is FREE", x.free(e, 0), 0);
        }
        Due.is("the TAPE stays", x.machine(1), 0);
        Due.is("and is read", x.ofMachine(0, 3), 13);
        Due.is("back()", x.back(), STATE);
    }

    private static void nothingOfTheOneBefore() {
        Due.part("promises 4, 5, 7, nothing is left of what is no more");
        String[] ends = {"drop", "anew", "fault"};
        for (String end : ends) {
            LeastBars x = new LeastBars();
            Due.tell(x, 0, end.equals("fault") ? "0a5 5h4 *3 !b z" : "0a5 5h4 *3 !b");
            int left = end.equals("drop") ? x.drop() : end.equals("anew") ? x.anew() : x.wipe();
            Due.is(end, left, end.equals("drop") ? 0 : end.equals("anew") ? 1 : 15);
            for (int e = 0; e < 8; e++) {
                Due.is(end + ", leads(0, " + e + ")", x.leads(0, e), NONE);
            }
            Due.is("machine", Due.tell(x, 1, "0c1"), 0);
            int[] want = {1, 4, 0, 1, 1};
            for (int what = 0; what < 5; what++) {
                Due.is(end + ", ofMachine(0, " + what + ")", x.ofMachine(0, what), want[what]);
            }
            Due.is(end + ", step(0, 0, 0)", x.step(0, 0, 0), NONE);
            Due.is(end + ", step(0, 5, 7)", x.step(0, 5, 7), NONE);
            Due.is(end + ", a LEADS no more", x.joint(0, 1), 4);
            x.free(0, 1);
            Due.is("machine", Due.tell(x, 1, "!a !h *0"), 1);
            Due.is(end + ", no PLANT has a", x.joint(0, 2), 0);
        }
    }

    private static void greatestState() {
        Due.part("promise 8, the greatest STATE");
        String[] texts = {"!h", "*0", "0a0", "*5", "5a0", "0a5", "4a5 *3", "*4 1a2", "!a 2b3 *1"};
        int[] want = {0, 0, 0, 5, 5, 5, 5, 4, 3};
        for (int i = 0; i < texts.length; i++) {
            LeastBars x = new LeastBars();
            Due.tell(x, i % 2, texts[i]);
            Due.is(texts[i], x.ofMachine(0, 4), want[i]);
            Due.is("what 5", x.ofMachine(0, 5), OUTSIDE);
            Due.is("what -1", x.ofMachine(0, -1), OUTSIDE);
            Due.is("MACHINE 1", x.ofMachine(1, 4), UNKNOWN);
            Due.is("MACHINE -1", x.ofMachine(-1, 4), UNKNOWN);
        }
    }

    private static void alphabetWithoutSteps() {
        Due.part("promise 8, sets");
        LeastBars x = new LeastBars();
        Due.tell(x, 0, "*0");
        Due.is("no EVENT", x.ofMachine(0, 1), 0);
        Due.is("no step", x.ofMachine(0, 3), 0);
        Due.tell(x, 0, "!a !h !a");
        Due.is("told by name, one twice", x.ofMachine(1, 1), 129);
        Due.is("no step by a name", x.ofMachine(1, 3), 0);
        Due.is("none MARKED", x.ofMachine(1, 2), 0);
        Due.tell(x, 0, "0a0 0h0");
        Due.is("told in steps", x.ofMachine(2, 1), 129);
        Due.tell(x, 0, "!a !b !c !d !e !f !g !h *0 *1 *2 *3 *4 *5 *5");
        Due.is("all EVENTS", x.ofMachine(3, 1), 255);
        Due.is("all STATES MARKED", x.ofMachine(3, 2), 63);
        Due.tell(x, 0, "*5");
        Due.is("the last alone MARKED", x.ofMachine(4, 2), 32);
    }

    private static void stepsOnTheEdges() {
        Due.part("promise 9");
        LeastBars x = new LeastBars();
        Due.is("no MACHINE", x.step(0, 0, 0), UNKNOWN);
        Due.tell(x, 0, "0a5 5h0");
        int[] states = {-1, 0, 5, 6};
        int[] events = {-1, 0, 7, 8};
        for (int s : states) {
            for (int e : events) {
                boolean known = s >= 0 && s <= 5 && e >= 0 && e <= 7;
                int to = s == 0 && e == 0 ? 5 : s == 5 && e == 7 ? 0 : NONE;
                Due.is("step(0, " + s + ", " + e + ")", x.step(0, s, e), known ? to : UNKNOWN);
                Due.is("step(1, " + s + ", " + e + ")", x.step(1, s, e), UNKNOWN);
                Due.is("step(-1, " + s + ", " + e + ")", x.step(-1, s, e), UNKNOWN);
            }
        }
    }

    private static LeastBars gone() {
        LeastBars x = Due.with("h", "P 0a1 1a0 *0 *1", "R *0");
        Due.is("go(0)", x.go(0), 1);
        Due.type(x, "*0");
        return x;
    }

    private static void begun(String call, LeastBars x, int at) {
        Due.is(call + ", at()", x.at(), at);
        Due.is(call + ", many(6)", x.many(6), at);
        Due.is(call + ", back()", x.back(), at == 0 ? STATE : 0);
    }

    private static void whatBeginsAnew() {
        Due.part("terms 4, what begins anew");
        LeastBars x = gone();
        Due.is("machine(1)", x.machine(1), 2);
        begun("machine", x, 0);
        x = gone();
        Due.is("drop()", x.drop(), 1);
        begun("drop", x, 0);
        for (int v = 0; v < 2; v++) {
            x = gone();
            Due.is("free(7, " + v + ")", x.free(7, v), 1);
            begun("free", x, 0);
        }
        x = gone();
        Due.is("anew()", x.anew(), 2);
        begun("anew", x, 0);
        x = gone();
        x.wipe();
        x.type('z');
        begun("wipe and type do not", x, 1);
        x = gone();
        x.type(' ');
        Due.is("a fault", x.machine(0), -103);
        begun("a fault does not", x, 1);
    }

    private static void fiveHundredAndTwelveCalls() {
        Due.part("512 calls");
        LeastBars x = new LeastBars();
        for (int i = 1; i <= 510; i += 2) {
            Due.is("call " + i, x.type('*'), 1);
            Due.is("call " + (i + 1), x.wipe(), 1);
        }
        Due.is("call 511", x.type('*'), 1);
        Due.is("call 512", x.many(1), 1);
        x = Plants.ring();
        for (int i = 25; i <= 512; i++) {
            Due.is("call " + i, x.go(0), (i - 24) % 5);
        }
    }
}
