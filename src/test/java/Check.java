import java.util.NoSuchElementException;

/** Counts and prints the answers that are not the ones that are due. */
final class Check {
    interface Call {
        long answer();
    }

    /** A fault can show in a hundred thousand answers; the first ones tell it. */
    private static final int MOST_PRINTED = 100;

    private int asked = 0;
    private int wrong = 0;

    void same(String what, long got, long want) {
        asked++;
        if (got != want) {
            fault(what + " answered " + got + ", due is " + want);
        }
    }

    void sameText(String what, String got, String want) {
        asked++;
        if (!got.equals(want)) {
            fault(what + " answered\n" + got + "\ndue is\n" + want);
        }
    }

    void yes(String what, boolean got) {
        same(what, got ? 1 : 0, 1);
    }

    void no(String what, boolean got) {
        same(what, got ? 1 : 0, 0);
    }

    /** The call throws this very class, and the object tells the same after it as before. */
    void refuses(String what, Rows x, Class<? extends RuntimeException> due, Call call) {
        String before = Snapshot.all(x);
        sameText(what, outcome(call), "throws." + due.getSimpleName());
        sameText(what + " changed the object:", Snapshot.all(x), before);
    }

    void badArgument(String what, Rows x, Call call) {
        refuses(what, x, IllegalArgumentException.class, call);
    }

    void badState(String what, Rows x, Call call) {
        refuses(what, x, IllegalStateException.class, call);
    }

    void noElement(String what, Rows x, Call call) {
        refuses(what, x, NoSuchElementException.class, call);
    }

    void badIndex(String what, Rows x, Call call) {
        refuses(what, x, ArrayIndexOutOfBoundsException.class, call);
    }

    void pairs(String what, Rows x, int relation, String want) {
        sameText(what, Snapshot.pairs(x, relation), want);
    }

    /** The last set() pushed out these and no others, told as "a-b c-d". */
    void pushed(String what, Rows x, String want) {
        StringBuilder got = new StringBuilder();
        int pushed = x.of(2);
        for (int i = 0; i < pushed; i++) {
            got.append(i == 0 ? "" : " ").append(x.pushed(i, 0)).append('-').append(x.pushed(i, 1));
        }
        sameText(what, got.toString(), want);
        noElement(what + ", one more", x, () -> x.pushed(pushed, 0));
    }

    static String outcome(Call call) {
        try {
            return Long.toString(call.answer());
        } catch (RuntimeException e) {
            return "throws." + e.getClass().getSimpleName();
        }
    }

    private void fault(String text) {
        wrong++;
        if (wrong <= MOST_PRINTED) {
            System.out.println(text);
        }
    }

    void end() {
        System.out.println(wrong == 0 ? asked + " answers are as due" : wrong + " answers are not as due");
        if (wrong != 0) {
            System.exit(1);
        }
    }
}
