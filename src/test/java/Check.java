import java.util.NoSuchElementException;

/** Counts and prints the answers that are not the ones that are due. */
final class Check {
    interface Call {
        long answer();
    }

    private int asked = 0;
    private int wrong = 0;

    void same(String what, long got, long want) {
        asked++;
        if (got != want) {
            fault(what + " answered " + got + ", due is " + want);
        }
    }

    void sameText(String what, String got, String want) {
        asked++;
        if (!got.equals(want)) {
            fault(what + " answered\n" + got + "\ndue is\n" + want);
        }
    }

    void yes(String what, boolean got) {
        same(what, got ? 1 : 0, 1);
    }

    void no(String what, boolean got) {
        same(what, got ? 1 : 0, 0);
    }

    /** The call throws this very class, and the object tells the same after it as before. */
    void refuses(String what, RelationRows x, Class<? extends RuntimeException> due, Call call) {
        String before = Snapshot.of(x);
        sameText(what, outcome(call), "throws." + due.getSimpleName());
        sameText(what + " changed the object:", Snapshot.of(x), before);
    }

    void badArgument(String what, RelationRows x, Call call) {
        refuses(what, x, IllegalArgumentException.class, call);
    }

    void badState(String what, RelationRows x, Call call) {
        refuses(what, x, IllegalStateException.class, call);
    }

    void noElement(String what, RelationRows x, Call call) {
        refuses(what, x, NoSuchElementException.class, call);
    }

    static String outcome(Call call) {
        try {
            return Long.toString(call.answer());
        } catch (RuntimeException e) {
            return "throws." + e.getClass().getSimpleName();
        }
    }

    void fault(String text) {
        wrong++;
        System.out.println(text);
    }

    void end() {
        System.out.println(wrong == 0 ? asked + " answers are as due" : wrong + " answers are not as due");
        if (wrong != 0) {
            System.exit(1);
        }
    }
}
