import java.util.function.Supplier;
import java.util.function.ToIntFunction;

/**
 * For each REFUSAL of each call: that it comes, that it comes in the order of the call's line where two would be
 * due, and that it changes nothing.
 */
public final class RefusalsTest {
    private static final int MIN = Integer.MIN_VALUE, MAX = Integer.MAX_VALUE;
    private static final int UNKNOWN = LeastBars.UNKNOWN, OUTSIDE = LeastBars.OUTSIDE, STATE = LeastBars.STATE,
        FULL = LeastBars.FULL, NONE = LeastBars.NONE;

    /** An object as it is ahead of a refusal, with how many MACHINES and JOINTS it has. */
    private record Setting(String name, Supplier<LeastBars> maker, int machines, int joints) {
    }

    private static final Setting NEW = new Setting("new", LeastBars::new, 0, 1);
    private static final Setting GOING = new Setting("going", Plants::going, 2, 4);
    private static final Setting FULL_UP = new Setting("full", Plants::full, 6, 2);
    private static final Setting FULL_WITH_FAULT = new Setting("full, a fault", Plants::fullWithFault, 6, 2);
    private static final Setting START_LOST = new Setting("START is LOST", Plants::startLost, 1, 3);
    private static final Setting OVER = new Setting("OVER", Plants::over, 5, 0);
    private static final Setting FAR_GONE = new Setting("far gone", Plants::farGone, 1, 5);
    private static final Setting MOST_JOINTS = new Setting("150 JOINTS", Plants::mostJoints, 5, 150);
    private static final Setting[] ALL = {NEW, GOING, FULL_UP, FULL_WITH_FAULT, START_LOST, OVER, FAR_GONE,
        MOST_JOINTS};
    private static final Setting[] NOT_UNDER_CONTROL = {START_LOST, OVER};

    public static void main(String[] args) {
        settings();
        type();
        machine();
        drop();
        free();
        for (Setting setting : ALL) {
            ofMachine(setting);
            step(setting);
            stateOf(setting);
            leads(setting);
            joint(setting);
            why(setting);
            wave(setting);
            some(setting);
            go(setting);
            finish(setting);
            word(setting);
            many(setting);
        }
        startIsNotUnderControl();
        back();
        looksChangeNothing();
        Due.close();
    }

    private static void refused(Setting setting, String call, int due, ToIntFunction<LeastBars> ask) {
        Due.is(setting.name + ": " + call, ask.applyAsInt(setting.maker.get()), due);
        Alike.after(setting.name + ": " + call, setting.maker, ask::applyAsInt);
    }

    private static void settings() {
        Due.part("settings");
        for (Setting setting : ALL) {
            LeastBars x = setting.maker.get();
            Due.is(setting.name + ": MACHINES", x.many(0), setting.machines);
            Due.is(setting.name + ": JOINTS", x.many(2), setting.joints == 0 ? NONE : setting.joints);
        }
    }

    /** Numbers that are just beside 0 .. last, and such as are far away. */
    private static int[] beside(int last) {
        return new int[] {-1, last + 1, MIN, MAX};
    }

    private static int[] besidePlacesInWord() {
        return new int[] {-1, NONE - 1, NONE + 1, 150, MIN, MAX};
    }

    private static void type() {
        Due.part("type");
        for (Setting setting : ALL) {
            for (int code : beside(127)) {
                refused(setting, "type(" + code + "), ahead of FULL too", OUTSIDE, x -> x.type(code));
            }
        }
        for (int code : new int[] {0, ' ', 127}) {
            refused(FULL_UP, "type(" + code + ")", FULL, x -> x.type(code));
        }
    }

    private static void machine() {
        Due.part("machine");
        for (Setting setting : ALL) {
            for (int kind : beside(1)) {
                refused(setting, "machine(" + kind + "), ahead of all", OUTSIDE, x -> x.machine(kind));
            }
        }
        for (int kind = 0; kind < 2; kind++) {
            int one = kind;
            refused(FULL_UP, "machine(" + kind + ")", FULL, x -> x.machine(one));
            refused(FULL_WITH_FAULT, "machine(" + kind + "), ahead of the fault", FULL, x -> x.machine(one));
            refused(NEW, "machine(" + kind + ")", -100, x -> x.machine(one));
            refused(GOING, "machine(" + kind + ")", -105, x -> x.machine(one));
            refused(FAR_GONE, "machine(" + kind + ")", -100, x -> x.machine(one));
        }
    }

    private static void drop() {
        Due.part("drop");
        refused(NEW, "drop()", STATE, LeastBars::drop);
        Setting none = new Setting("no MACHINE, but an EVENT that is FREE", () -> {
            LeastBars x = Plants.startLost();
            x.drop();
            x.type('!');
            return x;
        }, 0, 1);
        refused(none, "drop()", STATE, LeastBars::drop);
    }

    private static void free() {
        Due.part("free");
        for (Setting setting : ALL) {
            for (int e : beside(7)) {
                refused(setting, "free(" + e + ", 0)", UNKNOWN, x -> x.free(e, 0));
                refused(setting, "free(" + e + ", 1)", UNKNOWN, x -> x.free(e, 1));
                refused(setting, "free(" + e + ", 2), ahead of OUTSIDE", UNKNOWN, x -> x.free(e, 2));
            }
            for (int v : beside(1)) {
                refused(setting, "free(0, " + v + ")", OUTSIDE, x -> x.free(0, v));
                refused(setting, "free(7, " + v + ")", OUTSIDE, x -> x.free(7, v));
            }
        }
    }

    private static void ofMachine(Setting setting) {
        Due.part("ofMachine");
        for (int m : beside(setting.machines - 1)) {
            refused(setting, "ofMachine(" + m + ", 0)", UNKNOWN, x -> x.ofMachine(m, 0));
            refused(setting, "ofMachine(" + m + ", 5), ahead of OUTSIDE", UNKNOWN, x -> x.ofMachine(m, 5));
        }
        for (int what : beside(4)) {
            refused(setting, "ofMachine(0, " + what + ")", setting.machines > 0 ? OUTSIDE : UNKNOWN,
                x -> x.ofMachine(0, what));
        }
    }

    private static void step(Setting setting) {
        Due.part("step");
        for (int m : beside(setting.machines - 1)) {
            refused(setting, "step(" + m + ", 0, 0)", UNKNOWN, x -> x.step(m, 0, 0));
        }
        for (int s : beside(5)) {
            refused(setting, "step(0, " + s + ", 0)", UNKNOWN, x -> x.step(0, s, 0));
        }
        for (int e : beside(7)) {
            refused(setting, "step(0, 0, " + e + ")", UNKNOWN, x -> x.step(0, 0, e));
        }
    }

    private static void stateOf(Setting setting) {
        Due.part("stateOf");
        for (int n : beside(setting.joints - 1)) {
            refused(setting, "stateOf(" + n + ", 0)", UNKNOWN, x -> x.stateOf(n, 0));
        }
        for (int m : beside(setting.machines - 1)) {
            refused(setting, "stateOf(0, " + m + ")", UNKNOWN, x -> x.stateOf(0, m));
        }
    }

    private static void leads(Setting setting) {
        Due.part("leads");
        for (int n : beside(setting.joints - 1)) {
            refused(setting, "leads(" + n + ", 0)", UNKNOWN, x -> x.leads(n, 0));
        }
        for (int e : beside(7)) {
            refused(setting, "leads(0, " + e + ")", UNKNOWN, x -> x.leads(0, e));
        }
    }

    private static void joint(Setting setting) {
        Due.part("joint");
        for (int n : beside(setting.joints - 1)) {
            refused(setting, "joint(" + n + ", 0)", UNKNOWN, x -> x.joint(n, 0));
            refused(setting, "joint(" + n + ", 7), ahead of OUTSIDE", UNKNOWN, x -> x.joint(n, 7));
        }
        for (int what : beside(6)) {
            refused(setting, "joint(0, " + what + ")", setting.joints > 0 ? OUTSIDE : UNKNOWN, x -> x.joint(0, what));
        }
    }

    private static void why(Setting setting) {
        Due.part("why");
        int refusal = setting.joints > 0 ? OUTSIDE : UNKNOWN;
        for (int n : beside(setting.joints - 1)) {
            refused(setting, "why(" + n + ", 0, 0)", UNKNOWN, x -> x.why(n, 0, 0));
            refused(setting, "why(" + n + ", 150, 0), ahead of OUTSIDE", UNKNOWN, x -> x.why(n, 150, 0));
            refused(setting, "why(" + n + ", 0, 3), ahead of OUTSIDE", UNKNOWN, x -> x.why(n, 0, 3));
        }
        for (int n = 0; n < Math.min(setting.joints, 4); n++) {
            int one = n;
            for (int k : beside(149)) {
                refused(setting, "why(" + n + ", " + k + ", 0)", refusal, x -> x.why(one, k, 0));
            }
            for (int what : beside(2)) {
                refused(setting, "why(" + n + ", 0, " + what + ")", refusal, x -> x.why(one, 0, what));
                refused(setting, "why(" + n + ", 149, " + what + ")", refusal, x -> x.why(one, 149, what));
            }
        }
    }

    private static void wave(Setting setting) {
        Due.part("wave");
        int waves = setting.maker.get().many(5);
        for (int w : beside(waves - 1)) {
            refused(setting, "wave(" + w + ")", UNKNOWN, x -> x.wave(w));
        }
    }

    private static void some(Setting setting) {
        Due.part("some");
        int all = (1 << setting.machines) - 1;
        for (int set : new int[] {-1, all + 1, all + 2, 64, MIN, MIN + all, MAX}) {
            refused(setting, "some(" + set + ", 0)", OUTSIDE, x -> x.some(set, 0));
            refused(setting, "some(" + set + ", 1)", OUTSIDE, x -> x.some(set, 1));
        }
        for (int what : beside(1)) {
            refused(setting, "some(0, " + what + ")", OUTSIDE, x -> x.some(0, what));
            refused(setting, "some(all, " + what + "), ahead of NONE too", OUTSIDE, x -> x.some(all, what));
        }
    }

    private static void go(Setting setting) {
        Due.part("go");
        for (int e : beside(7)) {
            refused(setting, "go(" + e + "), ahead of STATE too", UNKNOWN, x -> x.go(e));
        }
        if (setting == GOING) {
            refused(setting, "go(0), it does not LEAD", NONE, x -> x.go(0));
            refused(setting, "go(2), it is BARRED", NONE, x -> x.go(2));
            refused(setting, "go(4), it is in no ALPHABET", NONE, x -> x.go(4));
        }
    }

    private static void finish(Setting setting) {
        Due.part("finish");
        for (int k : besidePlacesInWord()) {
            refused(setting, "finish(" + k + "), ahead of STATE too", OUTSIDE, x -> x.finish(k));
        }
    }

    private static void word(Setting setting) {
        Due.part("word");
        for (int n : beside(setting.joints - 1)) {
            refused(setting, "word(" + n + ", NONE)", UNKNOWN, x -> x.word(n, NONE));
            refused(setting, "word(" + n + ", 150), ahead of OUTSIDE", UNKNOWN, x -> x.word(n, 150));
        }
        for (int n = 0; n < Math.min(setting.joints, 4); n++) {
            int one = n;
            for (int k : besidePlacesInWord()) {
                refused(setting, "word(" + n + ", " + k + "), ahead of NONE too", OUTSIDE, x -> x.word(one, k));
            }
        }
    }

    private static void many(Setting setting) {
        Due.part("many");
        for (int what : beside(7)) {
            refused(setting, "many(" + what + ")", OUTSIDE, x -> x.many(what));
        }
    }

    private static void startIsNotUnderControl() {
        Due.part("START is not UNDER CONTROL");
        for (Setting setting : NOT_UNDER_CONTROL) {
            for (int e = 0; e < 8; e++) {
                int one = e;
                refused(setting, "go(" + e + ")", STATE, x -> x.go(one));
            }
            refused(setting, "at()", STATE, LeastBars::at);
            refused(setting, "back()", STATE, LeastBars::back);
            for (int k : new int[] {NONE, 0, 149}) {
                refused(setting, "finish(" + k + ")", STATE, x -> x.finish(k));
            }
        }
    }

    private static void back() {
        Due.part("back");
        refused(NEW, "back()", STATE, LeastBars::back);
        refused(new Setting("nothing happened", Plants::ring, 1, 5), "back()", STATE, LeastBars::back);
        Setting spent = new Setting("all sixteen taken back", () -> {
            LeastBars x = Plants.farGone();
            for (int i = 0; i < 16; i++) {
                x.back();
            }
            return x;
        }, 1, 5);
        refused(spent, "back()", STATE, LeastBars::back);
    }

    /** Calls that only tell something change nothing either, whatever they answer. */
    private static void looksChangeNothing() {
        Due.part("calls that look");
        for (Setting setting : ALL) {
            Alike.after(setting.name + ": looks at MACHINES and JOINTS", setting.maker, x -> {
                x.ofMachine(0, 1);
                x.step(0, 0, 0);
                for (int n = 0; n < 3; n++) {
                    x.stateOf(n, 0);
                    x.leads(n, 0);
                    x.joint(n, 6);
                    x.why(n, 1, 2);
                    x.word(n, NONE);
                    x.word(n, 0);
                }
            });
            Alike.after(setting.name + ": looks at all else", setting.maker, x -> {
                x.wave(0);
                x.at();
                x.finish(NONE);
                x.finish(0);
                for (int what = 0; what < 8; what++) {
                    x.many(what);
                }
            });
            Alike.after(setting.name + ": looks at some", setting.maker, x -> {
                x.some(0, 1);
                x.some(1, 0);
            });
        }
        refused(MOST_JOINTS, "some(23, 0)", NONE, x -> x.some(23, 0));
        refused(MOST_JOINTS, "some(23, 1)", NONE, x -> x.some(23, 1));
    }
}
