import java.util.ArrayList;
import java.util.List;
import java.util.function.Consumer;
import java.util.function.Supplier;

/**
 * Whether a call changes nothing: of two objects that are made alike one gets the call, then both are asked the
 * same questions. Each view asks two new objects, so that none is asked more than 512 times.
 */
final class Alike {
    private static final int NONE = LeastBars.NONE;
    private static final int VIEWS = 5;
    private static final int[] JOINTS = {0, 1, 2, 3, 4, 5, 148, 149, 150};

    private Alike() {
    }

    static void after(String call, Supplier<LeastBars> maker, Consumer<LeastBars> act) {
        for (int view = 0; view < VIEWS; view++) {
            LeastBars x = maker.get();
            act.accept(x);
            List<Integer> got = seen(x, view);
            List<Integer> due = seen(maker.get(), view);
            Due.holds(call + " changes nothing, view " + view, got.equals(due));
        }
    }

    private static List<Integer> seen(LeastBars x, int view) {
        List<Integer> row = new ArrayList<>();
        switch (view) {
            case 0: machines(x, row); break;
            case 1: joints(x, row); break;
            case 2: reasons(x, row); break;
            case 3: goes(x, row); break;
            default: tape(x, row); break;
        }
        return row;
    }

    private static void counts(LeastBars x, List<Integer> row) {
        for (int what = 0; what < 8; what++) {
            row.add(x.many(what));
        }
    }

    private static void machines(LeastBars x, List<Integer> row) {
        counts(x, row);
        for (int m = 0; m < 6; m++) {
            for (int what = 0; what < 5; what++) {
                row.add(x.ofMachine(m, what));
            }
            for (int s = 0; s < 4; s++) {
                for (int e = 0; e < 8; e++) {
                    row.add(x.step(m, s, e));
                }
            }
        }
    }

    private static void joints(LeastBars x, List<Integer> row) {
        for (int n : JOINTS) {
            for (int what = 0; what < 7; what++) {
                row.add(x.joint(n, what));
            }
            for (int m = 0; m < 6; m++) {
                row.add(x.stateOf(n, m));
            }
            for (int e = 0; e < 8; e++) {
                row.add(x.leads(n, e));
            }
        }
    }

    private static void reasons(LeastBars x, List<Integer> row) {
        for (int n : JOINTS) {
            for (int k = 0; k < 3; k++) {
                for (int what = 0; what < 3; what++) {
                    row.add(x.why(n, k, what));
                }
            }
            for (int k = -1; k < 4; k++) {
                row.add(x.word(n, k < 0 ? NONE : k));
            }
        }
        for (int w = 0; w < 5; w++) {
            row.add(x.wave(w));
        }
        for (int set = 0; set < 8; set++) {
            row.add(x.some(set, 0));
            row.add(x.some(set, 1));
        }
    }

    private static void goes(LeastBars x, List<Integer> row) {
        for (int k = -1; k < 5; k++) {
            row.add(x.finish(k < 0 ? NONE : k));
        }
        row.add(x.at());
        for (int i = 0; i < 18; i++) {
            row.add(x.back());
            row.add(x.many(6));
            row.add(x.at());
        }
        for (int e = 0; e < 8; e++) {
            row.add(x.go(e));
            row.add(x.at());
        }
        for (int e = 0; e < 8; e++) {
            row.add(x.free(e, 0));
        }
    }

    /** What is on the TAPE is seen from the MACHINE that it tells; an ITEM that ends too soon is told to its end. */
    private static void tape(LeastBars x, List<Integer> row) {
        row.add(x.many(1));
        row.add(x.many(0) == 6 ? x.drop() : NONE);
        row.add(x.machine(1));
        row.add(x.type('3'));
        row.add(x.machine(0));
        row.add(x.wipe());
        counts(x, row);
        for (int what = 0; what < 5; what++) {
            row.add(x.ofMachine(x.many(0) - 1, what));
        }
        for (int e = 0; e < 8; e++) {
            row.add(x.step(x.many(0) - 1, 0, e));
        }
    }
}
