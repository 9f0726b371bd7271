import java.util.function.Supplier;
import java.util.function.ToLongFunction;

/** What the tests share: comparing answers, and looking at all that a beacon tells. */
final class Checks {
    private static int wrong = 0;
    private static String name = "";

    private Checks() {
    }

    /** What follows belongs to this test. */
    static void name(String newName) {
        name = newName;
    }

    private static void report(String text) {
        wrong++;
        System.out.println((name.isEmpty() ? "" : name + ": ") + text);
    }

    static void due(String call, long got, long want) {
        if (got != want) {
            report(call + " answered " + got + ", due is " + want);
        }
    }

    static void same(String what, String got, String want) {
        if (!got.equals(want)) {
            report(what + ":\n  is  " + got + "\n  due " + want);
        }
    }

    /** The call answers the error code, and all that is told and can be undone after it is as without it. */
    static void refused(String call, Supplier<RevealBeacon> setup, ToLongFunction<RevealBeacon> run, int code) {
        RevealBeacon called = setup.get();
        RevealBeacon spared = setup.get();
        due(call, run.applyAsLong(called), code);
        due(call + ", then told(14)", called.told(14), spared.told(14));
        same("after " + call, look(called), look(spared));
        same("the history after " + call, undoAll(called), undoAll(spared));
    }

    /** The call answers what is due, is recorded as one change, and its undoing restores all. */
    static void change(String call, Supplier<RevealBeacon> setup, ToLongFunction<RevealBeacon> run, int want) {
        RevealBeacon called = setup.get();
        RevealBeacon spared = setup.get();
        int recorded = spared.told(14);
        due(call, run.applyAsLong(called), want);
        due(call + ", then told(14)", called.told(14), Math.min(8, recorded + 1));
        due(call + ", then undo()", called.undo(), Math.min(7, recorded));
        same("after " + call + " and undo()", look(called), look(spared));
    }

    /** The call answers what is due and changes nothing that is told. */
    static void query(String call, Supplier<RevealBeacon> setup, ToLongFunction<RevealBeacon> run, int want) {
        refused(call, setup, run, want);
    }

    /** All that a beacon tells, but for openings and what can be undone; at most some 240 calls. */
    static String look(RevealBeacon x) {
        StringBuilder text = new StringBuilder("told");
        for (int i = 0; i < 14; i++) {
            text.append(' ').append(x.told(i));
        }
        text.append(" settings");
        for (int i = 0; i < 6; i++) {
            text.append(' ').append(x.setting(i));
        }
        for (int i = 0; i < x.told(0); i++) {
            text.append(" member ").append(i).append(':');
            for (int what = 0; what < 7; what++) {
                text.append(' ').append(x.member(i, what));
            }
            for (int j = 0; j < x.told(0); j++) {
                text.append(' ').append(x.mark(i, j)).append('/').append(x.share(i, j));
            }
            text.append(" influence ").append(x.influence(i));
        }
        text.append(" past");
        for (int i = 0; i < x.told(3); i++) {
            text.append(' ').append(x.past(i));
        }
        text.append(" honest ").append(x.honest()).append(" outcome ").append(x.outcome());
        return text.append(" mean ").append(x.mean()).toString();
    }

    /** Undoes all, with the numbers that are told after each step; at most some 120 calls. */
    private static String undoAll(RevealBeacon x) {
        StringBuilder text = new StringBuilder();
        for (int left = x.undo(); left >= 0; left = x.undo()) {
            text.append(" undo ").append(left).append(':');
            for (int i = 0; i < 15; i++) {
                text.append(' ').append(x.told(i));
            }
        }
        return text.toString();
    }

    static void finish(String test) {
        System.out.println(test + ": " + (wrong == 0 ? "all answers are as due" : wrong + " are not as due"));
        if (wrong != 0) {
            System.exit(1);
        }
    }
}
