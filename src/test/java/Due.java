/** What all tests of the project share: answers that are due, and TEXTS told to an object. */
final class Due {
    private static int wrong = 0;
    private static int asked = 0;
    private static String part = "";

    private Due() {
    }

    static void part(String name) {
        part = name;
    }

    static void is(String call, long got, long want) {
        asked++;
        if (got != want) {
            wrong++;
            System.out.println(part + ": " + call + " answered " + got + ", due is " + want);
        }
    }

    static void holds(String what, boolean so) {
        is(what, so ? 1 : 0, 1);
    }

    /** Asks for how many there are of each kind that many() tells. */
    static void many(LeastBars x, int... want) {
        for (int what = 0; what < want.length; what++) {
            is("many(" + what + ")", x.many(what), want[what]);
        }
    }

    static void type(LeastBars x, String text) {
        for (int i = 0; i < text.length(); i++) {
            x.type(text.charAt(i));
        }
    }

    static int tell(LeastBars x, int kind, String text) {
        x.wipe();
        type(x, text);
        return x.machine(kind);
    }

    /** An object with MACHINES: "P " ahead of the TEXT of a PLANT, "R " ahead of that of a RULE. */
    static LeastBars with(String free, String... machines) {
        LeastBars x = new LeastBars();
        for (int m = 0; m < machines.length; m++) {
            int kind = machines[m].charAt(0) == 'P' ? 0 : 1;
            is("machine " + machines[m], tell(x, kind, machines[m].substring(2)), m);
        }
        for (int i = 0; i < free.length(); i++) {
            x.free(free.charAt(i) - 'a', 1);
        }
        return x;
    }

    static void close() {
        System.out.println((asked - wrong) + " answers as due, " + wrong + " not");
        if (wrong != 0 || asked == 0) {
            System.exit(1);
        }
    }
}
