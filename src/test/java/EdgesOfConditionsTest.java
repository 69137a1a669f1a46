/** The edges that the sentence on RELATIONS by CONDITIONS names: a method for each of its parts, which stands above it. */
public final class EdgesOfConditionsTest {
    private static final int NONE = Scenes.NONE;
    private static final int TURNED = 0;
    private static final int NOT = 1;
    private static final int BOTH = 2;
    private static final int EITHER = 3;
    private static final int THROUGH = 4;
    private static final int FAR = 5;
    private static final Check CHECK = new Check();

    private EdgesOfConditionsTest() {
    }

    public static void main(String[] args) {
        turned();
        not();
        notWithKinds();
        both();
        either();
        through();
        throughIsNotTurned();
        far();
        farTwoAtLeast();
        farAsLongAsCanBe();
        asOthersHaveThemJustThen();
        whateverIsAskedFirst();
        afterPushingOut();
        onOneAnother();
        noneOfThemIsSet();
        ofOneThing();
        CHECK.end();
    }

    private static Rows by(int condition, Rows x, int r, int s) {
        x.condition(condition, r, s);
        return x;
    }

    /** "0 TURNED: (a, b), if (b, a) is one of r" */
    private static void turned() {
        CHECK.pairs("of none", by(TURNED, Scenes.withPairs(3, 3), 0, NONE), 1, "");
        CHECK.pairs("of some", by(TURNED, Scenes.withPairs(3, 3, 0, 2, 1, 1, 2, 1), 0, NONE), 1, " 1-1 1-2 2-0");
        CHECK.pairs("of all", by(TURNED, Scenes.withPairs(2, 6, 0, 1), 0, NONE), 1, " 0-0 0-1 1-0 1-1");
        Rows forty = by(TURNED, Scenes.withPairs(40, 3, 39, 0), 0, NONE);
        CHECK.yes("of the first and the last thing", forty.has(1, 0, 39));
        CHECK.no("and not as it was", forty.has(1, 39, 0));
    }

    /** "1 NOT: if it is none of r" */
    private static void not() {
        Rows forty = by(NOT, Scenes.withPairs(40, 3), 0, NONE);
        CHECK.same("of none are all", forty.count(1), 1600);
        CHECK.same("of none, the last next one", forty.next(1, 39, 39), 39);
        forty.set(0, 39, 39);
        CHECK.same("of one are all but one", forty.count(1), 1599);
        CHECK.no("but this one", forty.has(1, 39, 39));
        Rows one = Scenes.chain(40, 6);
        CHECK.same("of all is none", by(NOT, one, 0, NONE).count(1), 0);
        CHECK.noElement("of all is none next", one, () -> one.next(1, 0, 0));
    }

    /** "1 NOT: if it is none of r": a pair that does not fit is none. */
    private static void notWithKinds() {
        Rows x = Scenes.sixOfThreeKinds();
        x.relation(6, 0, 0);
        x.relation(0, 1, 3);
        CHECK.same("all but two alone", by(NOT, x, 0, NONE).count(2), 34);
        CHECK.yes("of another kind", x.has(2, 5, 5));
        CHECK.same("where none fits, all", by(NOT, x, 1, NONE).count(3), 36);
    }

    /** "2 BOTH: one of r and of s" */
    private static void both() {
        Rows x = Scenes.withPairs(3, 3, 0, 1, 1, 2);
        x.relation(3, NONE, NONE);
        Scenes.setAll(x, 1, 1, 2, 2, 0);
        CHECK.pairs("in both", by(BOTH, x, 0, 1), 2, " 1-2");
        CHECK.pairs("r and s may be one", by(BOTH, x, 0, 0), 3, " 0-1 1-2");
        by(NOT, x, 0, NONE);
        CHECK.pairs("what is and is not", by(BOTH, x, 0, 4), 5, "");
    }

    /** "3 EITHER." */
    private static void either() {
        Rows x = Scenes.withPairs(3, 3, 0, 1, 1, 2);
        x.relation(3, NONE, NONE);
        Scenes.setAll(x, 1, 1, 2, 2, 0);
        CHECK.pairs("in one or in both", by(EITHER, x, 0, 1), 2, " 0-1 1-2 2-0");
        CHECK.pairs("r and s may be one", by(EITHER, x, 1, 1), 3, " 1-2 2-0");
        by(NOT, x, 0, NONE);
        CHECK.same("what is or is not", by(EITHER, x, 0, 4).count(5), 9);
        x.empty(0);
        x.empty(1);
        CHECK.pairs("none", x, 2, "");
    }

    /** "4 THROUGH: if for some c (a, c) is one of r and (c, b) one of s" */
    private static void through() {
        Rows x = Scenes.withPairs(4, 3, 0, 1);
        x.relation(3, NONE, NONE);
        by(THROUGH, x, 0, 1);
        CHECK.pairs("no (c, b)", x, 2, "");
        x.set(1, 2, 3);
        CHECK.pairs("another c", x, 2, "");
        x.set(1, 1, 0);
        CHECK.pairs("b may be a", x, 2, " 0-0");
        x.set(1, 1, 1);
        CHECK.pairs("c may be b", x, 2, " 0-0 0-1");
        x.set(0, 2, 2);
        CHECK.pairs("c may be a", x, 2, " 0-0 0-1 2-3");
        x.set(1, 2, 2);
        CHECK.pairs("all three may be one", x, 2, " 0-0 0-1 2-2 2-3");
        Rows some = by(THROUGH, Scenes.withPairs(5, 3, 0, 1, 0, 2, 1, 3, 2, 4), 0, 0);
        CHECK.pairs("several c", some, 1, " 0-3 0-4");
        some.set(0, 2, 3);
        some.drop(0, 1, 3);
        CHECK.pairs("one c is enough", some, 1, " 0-3 0-4");
        Rows last = Scenes.withPairs(40, 3, 0, 39, 39, 1, 2, 0);
        by(THROUGH, last, 0, 0);
        CHECK.yes("through the last thing", last.has(1, 0, 1));
        CHECK.yes("through the first thing", last.has(1, 2, 39));
        CHECK.same("and no others", last.count(1), 2);
        CHECK.same("through all", by(THROUGH, Scenes.chain(40, 6), 0, 0).count(1), 1600);
    }

    /** The same: the way goes by r first, then by s. */
    private static void throughIsNotTurned() {
        Rows x = Scenes.withPairs(3, 3, 0, 1);
        x.relation(3, NONE, NONE);
        x.set(1, 1, 2);
        CHECK.pairs("by r, then by s", by(THROUGH, x, 0, 1), 2, " 0-2");
        CHECK.pairs("the other one first", by(THROUGH, x, 1, 0), 3, "");
    }

    /** "5 FAR: if there is a row of THINGS a, .., b, .. each with the next one a PAIR of r" */
    private static void far() {
        CHECK.pairs("of none", by(FAR, Scenes.withPairs(3, 3), 0, NONE), 1, "");
        Rows two = by(FAR, Scenes.withPairs(5, 3, 3, 1, 1, 4, 2, 0), 0, NONE);
        CHECK.pairs("two rows that do not meet", two, 1, " 1-4 2-0 3-1 3-4");
        two.set(0, 4, 2);
        CHECK.pairs("now they meet", two, 1, " 1-0 1-2 1-4 2-0 3-0 3-1 3-2 3-4 4-0 4-2");
    }

    /** "two at least" */
    private static void farTwoAtLeast() {
        Rows x = by(FAR, Scenes.withPairs(4, 3, 0, 1, 3, 3), 0, NONE);
        CHECK.pairs("two are enough, one thing alone is not", x, 1, " 0-1 3-3");
        CHECK.same("though its route is itself", x.length(1, 0, 0), 0);
        x.set(0, 1, 0);
        CHECK.pairs("there and back again", x, 1, " 0-0 0-1 1-0 1-1 3-3");
        x.drop(0, 3, 3);
        CHECK.no("no more with itself", x.has(1, 3, 3));
    }

    /** "a row of THINGS a, .., b": as long as can be. */
    private static void farAsLongAsCanBe() {
        Rows up = by(FAR, Scenes.chain(40, 0), 0, NONE);
        CHECK.yes("from the first to the last", up.has(1, 0, 39));
        CHECK.same("each with all behind it", up.count(1), 780);
        up.set(0, 39, 0);
        CHECK.same("round a ring of all", up.count(1), 1600);
        Rows down = new Rows(40);
        down.relation(3, NONE, NONE);
        for (int a = 39; a > 0; a--) {
            down.set(0, a, a - 1);
        }
        by(FAR, down, 0, NONE);
        CHECK.yes("from the last to the first", down.has(1, 39, 0));
        CHECK.same("each with all before it", down.count(1), 780);
    }

    /** "has PAIRS as others have them just then": every way in which a pair can come or go. */
    private static void asOthersHaveThemJustThen() {
        for (int condition : new int[] {TURNED, NOT, BOTH, EITHER, THROUGH, FAR}) {
            boolean two = condition == BOTH || condition == EITHER || condition == THROUGH;
            Rows x = by(condition, Scenes.withPairs(2, 3), 0, two ? 0 : NONE);
            int none = condition == NOT ? 4 : 0;
            int one = condition == NOT ? 3 : 1;
            CHECK.same(condition + " before", x.count(1), none);
            x.set(0, 1, 1);
            CHECK.same(condition + " after set", x.count(1), one);
            x.drop(0, 1, 1);
            CHECK.same(condition + " after drop", x.count(1), none);
            x.set(0, 0, 0);
            CHECK.same(condition + " after another set", x.count(1), one);
            x.empty(0);
            CHECK.same(condition + " after empty", x.count(1), none);
        }
    }

    /** The same: the first question after a change has the new answer, whichever question it is. */
    private static void whateverIsAskedFirst() {
        CHECK.yes("has", justTurned().has(1, 2, 0));
        CHECK.same("next", justTurned().next(1, 2, 0), 0);
        CHECK.same("back", justTurned().back(1, 0, 0), 2);
        CHECK.same("count", justTurned().count(1), 1);
        CHECK.same("length", justTurned().length(1, 2, 0), 1);
        CHECK.same("route", justTurned().route(1, 2, 0, 1), 0);
        CHECK.same("differ", justTurned().differ(1, 2), 80);
        CHECK.same("differ the other way round", justTurned().differ(2, 1), 80);
        Rows gone = justTurned();
        CHECK.no("has not", gone.has(1, 1, 0));
        Rows none = justTurned();
        CHECK.noElement("next of none", none, () -> none.next(1, 1, 0));
        CHECK.same("length of none", justTurned().length(1, 1, 0), NONE);
    }

    /** Relation 1 is relation 0 turned, and was asked before (0, 2) pushed out (0, 1). */
    private static Rows justTurned() {
        Rows x = by(TURNED, Scenes.withPairs(3, 2, 0, 1), 0, NONE);
        x.relation(3, NONE, NONE);
        x.has(1, 1, 0);
        x.set(0, 0, 2);
        return x;
    }

    /** The same, of what is pushed out, and of twins, mutual ones and classes. */
    private static void afterPushingOut() {
        for (int form : new int[] {0, 2, 4}) {
            Rows x = by(TURNED, Scenes.withPairs(3, form, 0, 1), 0, NONE);
            CHECK.yes("before, in form " + form, x.has(1, 1, 0));
            x.set(0, 0, 2);
            CHECK.no("pushed out, in form " + form, x.has(1, 1, 0));
            CHECK.yes("set, in form " + form, x.has(1, 2, 0));
        }
        Rows second = by(TURNED, Scenes.withPairs(3, 1, 0, 1), 0, NONE);
        second.count(1);
        second.set(0, 2, 1);
        CHECK.pairs("pushed out, in form 1", second, 1, " 1-2");
        Rows mutual = by(NOT, Scenes.withPairs(2, 5, 0, 1), 0, NONE);
        CHECK.same("mutual", mutual.count(1), 2);
        mutual.drop(0, 1, 0);
        CHECK.same("mutual, dropped", mutual.count(1), 4);
        Rows classes = by(NOT, Scenes.withPairs(3, 6), 0, NONE);
        CHECK.same("classes", classes.count(1), 6);
        classes.set(0, 2, 0);
        CHECK.same("two classes become one", classes.count(1), 4);
        classes.drop(0, 0, 2);
        CHECK.same("each alone again", classes.count(1), 6);
    }

    /** "as others have them": the others may be by conditions themselves, one upon the other. */
    private static void onOneAnother() {
        Rows x = Scenes.withPairs(3, 3);
        for (int number = 1; number < 12; number++) {
            by(TURNED, x, number - 1, NONE);
        }
        CHECK.same("none yet", x.count(11), 0);
        x.set(0, 0, 2);
        CHECK.pairs("turned eleven times", x, 11, " 2-0");
        CHECK.pairs("turned ten times", x, 10, " 0-2");
        x.drop(0, 0, 2);
        CHECK.same("none again", x.count(11), 0);
        Rows later = Scenes.withPairs(2, 3);
        by(NOT, later, 0, NONE);
        CHECK.same("asked before the next one comes", later.count(1), 4);
        later.relation(3, NONE, NONE);
        by(BOTH, later, 1, 2);
        later.set(2, 0, 1);
        CHECK.pairs("of one before and one behind", later, 3, " 0-1");
        later.set(0, 0, 1);
        CHECK.pairs("through both", later, 3, "");
    }

    /** "and none of them is set" */
    private static void noneOfThemIsSet() {
        for (int condition = TURNED; condition <= FAR; condition++) {
            boolean two = condition == BOTH || condition == EITHER || condition == THROUGH;
            Rows x = by(condition, Scenes.withPairs(3, 3, 1, 1), 0, two ? 0 : NONE);
            for (int a = 0; a <= 1; a++) {
                int thing = a;
                CHECK.badState("set by " + condition, x, () -> x.set(1, thing, thing));
                CHECK.badState("drop by " + condition, x, () -> Scenes.number(x.drop(1, thing, thing)));
            }
            CHECK.badState("empty by " + condition, x, () -> x.empty(1));
            CHECK.badState("leader by " + condition, x, () -> x.leader(1, 0));
        }
    }

    /** Each condition with one thing alone. */
    private static void ofOneThing() {
        int[] without = {0, 1, 0, 0, 0, 0};
        int[] with = {1, 0, 1, 1, 1, 1};
        for (int condition = TURNED; condition <= FAR; condition++) {
            boolean two = condition == BOTH || condition == EITHER || condition == THROUGH;
            Rows x = by(condition, Scenes.withPairs(1, 3), 0, two ? 0 : NONE);
            CHECK.same(condition + " of none", x.count(1), without[condition]);
            x.set(0, 0, 0);
            CHECK.same(condition + " of one", x.count(1), with[condition]);
        }
    }
}
