/** The edges that section 2 of the terms names (pushed out, going, routes): a method for each part, which stands above it. */
public final class EdgesOfPushingTest {
    private static final int NONE = Scenes.NONE;
    private static final Check CHECK = new Check();

    private EdgesOfPushingTest() {
    }

    public static void main(String[] args) {
        andWasNone();
        formZero();
        formZeroWithItself();
        formOne();
        formTwo();
        formFour();
        formFourTurned();
        formsThatPushNone();
        onlyInThisRelation();
        bothClassesBecomeOne();
        goesBothWays();
        classGoes();
        classGoesWithItself();
        routeAlone();
        routeAsShortAsCanBe();
        routeFirstBySecondThing();
        routeThenByThirdThing();
        routeAsLongAsCanBe();
        CHECK.end();
    }

    /** "A PAIR (a, b) that is SET .. and was none, PUSHES OUT": one that was there pushes none. */
    private static void andWasNone() {
        for (int form = 0; form <= 6; form++) {
            Rows x = Scenes.withPairs(5, form, 3, 4, 0, 1);
            String before = Snapshot.pairs(x, 0);
            CHECK.same("set again in form " + form, x.set(0, 0, 1), 0);
            CHECK.pushed("none in form " + form, x, "");
            CHECK.pairs("as before in form " + form, x, 0, before);
        }
        Rows twins = Scenes.withPairs(3, 4, 0, 1);
        CHECK.same("twins that were there, turned", twins.set(0, 1, 0), 0);
        CHECK.pairs("they stay", twins, 0, " 0-1 1-0");
    }

    /** "FORM 0: (a, x), then (x, b)", "which go first" */
    private static void formZero() {
        Rows none = Scenes.withPairs(6, 0, 0, 1, 2, 3);
        CHECK.same("neither", none.set(0, 4, 5), 0);
        CHECK.pairs("neither goes", none, 0, " 0-1 2-3 4-5");
        Rows first = Scenes.withPairs(6, 0, 4, 1, 2, 3);
        CHECK.same("the first alone", first.set(0, 4, 5), 1);
        CHECK.pushed("the first alone", first, "4-1");
        CHECK.pairs("the first alone goes", first, 0, " 2-3 4-5");
        Rows second = Scenes.withPairs(6, 0, 0, 5, 2, 3);
        CHECK.same("the second alone", second.set(0, 4, 5), 1);
        CHECK.pushed("the second alone", second, "0-5");
        CHECK.pairs("the second alone goes", second, 0, " 2-3 4-5");
        Rows both = Scenes.withPairs(6, 0, 0, 5, 4, 1);
        CHECK.same("both", both.set(0, 4, 5), 2);
        CHECK.pushed("first by a, whichever was set first", both, "4-1 0-5");
        CHECK.pairs("both go", both, 0, " 4-5");
        Rows other = Scenes.withPairs(6, 0, 4, 1, 0, 5);
        other.set(0, 4, 5);
        CHECK.pushed("first by a, in the other order too", other, "4-1 0-5");
    }

    /** The same, where a, b and x meet. */
    private static void formZeroWithItself() {
        Rows x = Scenes.withPairs(3, 0, 1, 0, 2, 1);
        CHECK.same("b is a", x.set(0, 1, 1), 2);
        CHECK.pushed("b is a", x, "1-0 2-1");
        Rows one = Scenes.withPairs(3, 0, 0, 2, 2, 1);
        CHECK.same("the same x twice", one.set(0, 0, 1), 2);
        CHECK.pushed("the same x twice", one, "0-2 2-1");
        Rows selves = Scenes.withPairs(2, 0, 0, 0, 1, 1);
        CHECK.same("each with itself", selves.set(0, 1, 0), 2);
        CHECK.pushed("each with itself", selves, "1-1 0-0");
        Rows turned = Scenes.withPairs(2, 0, 0, 1);
        CHECK.same("turned it is another pair", turned.set(0, 1, 0), 0);
        CHECK.pairs("both ways", turned, 0, " 0-1 1-0");
    }

    /** "1: (x, b)" */
    private static void formOne() {
        Rows x = Scenes.withPairs(4, 1, 1, 0, 1, 2, 3, 3);
        CHECK.same("a pushes none", x.set(0, 1, 1), 0);
        CHECK.same("b pushes one", x.set(0, 1, 3), 1);
        CHECK.pushed("x is told first", x, "3-3");
        CHECK.pairs("a keeps its others", x, 0, " 1-0 1-1 1-2 1-3");
        CHECK.same("with itself", x.set(0, 0, 0), 1);
        CHECK.pushed("with itself", x, "1-0");
    }

    /** "2: (a, x)" */
    private static void formTwo() {
        Rows x = Scenes.withPairs(4, 2, 0, 1, 2, 1, 3, 3);
        CHECK.same("b pushes none", x.set(0, 1, 1), 0);
        CHECK.same("a pushes one", x.set(0, 3, 1), 1);
        CHECK.pushed("x is told second", x, "3-3");
        CHECK.pairs("b keeps its others", x, 0, " 0-1 1-1 2-1 3-1");
        CHECK.same("with itself", x.set(0, 0, 0), 1);
        CHECK.pushed("with itself", x, "0-1");
    }

    /** "4: (a, x), then (b, x) (and each the other way round, which is neither told nor counted)" */
    private static void formFour() {
        Rows first = Scenes.withPairs(6, 4, 4, 1, 2, 3);
        CHECK.same("the first alone", first.set(0, 4, 5), 1);
        CHECK.pushed("the first alone", first, "4-1");
        CHECK.pairs("the first alone goes, turned too", first, 0, " 2-3 3-2 4-5 5-4");
        Rows second = Scenes.withPairs(6, 4, 0, 5, 2, 3);
        CHECK.same("the second alone", second.set(0, 4, 5), 1);
        CHECK.pushed("b is told first", second, "5-0");
        CHECK.pairs("the second alone goes, turned too", second, 0, " 2-3 3-2 4-5 5-4");
        Rows both = Scenes.withPairs(6, 4, 0, 5, 1, 4);
        CHECK.same("both", both.set(0, 4, 5), 2);
        CHECK.pushed("first by a, then by b", both, "4-1 5-0");
        CHECK.pairs("four are gone", both, 0, " 4-5 5-4");
        Rows neither = Scenes.withPairs(4, 4, 0, 1);
        CHECK.same("neither", neither.set(0, 2, 3), 0);
        CHECK.pairs("neither goes", neither, 0, " 0-1 1-0 2-3 3-2");
    }

    /** The same, with a and b the other way round. */
    private static void formFourTurned() {
        Rows x = Scenes.withPairs(6, 4, 0, 5, 1, 4);
        CHECK.same("both", x.set(0, 5, 4), 2);
        CHECK.pushed("first by 5, then by 4", x, "5-0 4-1");
        Rows three = Scenes.withPairs(3, 4, 0, 1);
        CHECK.same("the twin of one", three.set(0, 2, 1), 1);
        CHECK.pushed("the twin of one", three, "1-0");
        CHECK.pairs("one is left", three, 0, " 1-2 2-1");
    }

    /** "3, 5, 6: none" */
    private static void formsThatPushNone() {
        for (int form : new int[] {3, 5, 6}) {
            Rows x = new Rows(6);
            x.relation(form, NONE, NONE);
            int before = x.count(0);
            for (int pair = 0; pair < 36; pair++) {
                CHECK.same("none in form " + form, x.set(0, pair / 6, pair % 6), 0);
                int after = x.count(0);
                CHECK.yes("none goes in form " + form, after >= before);
                before = after;
            }
            CHECK.pushed("none at last in form " + form, x, "");
            CHECK.same("all in form " + form, before, 36);
        }
    }

    /** "SET in a RELATION": another one keeps its pairs. */
    private static void onlyInThisRelation() {
        for (int form : new int[] {0, 1, 2, 4}) {
            Rows x = new Rows(4);
            for (int r = 0; r < 3; r++) {
                x.relation(form, NONE, NONE);
                Scenes.setAll(x, r, 0, 1, 2, 3);
            }
            String before = Snapshot.pairs(x, 0);
            x.set(1, 0, 3);
            CHECK.pairs("the one before, form " + form, x, 0, before);
            CHECK.pairs("the one behind, form " + form, x, 2, before);
            x.empty(1);
            x.drop(1, 2, 3);
            CHECK.same("still alike, form " + form, x.differ(0, 2), NONE);
        }
    }

    /** "In FORM 6 both CLASSES become one." */
    private static void bothClassesBecomeOne() {
        Rows x = Scenes.withPairs(6, 6, 0, 5, 1, 4);
        x.set(0, 4, 5);
        CHECK.same("each with each", x.count(0), 4 * 4 + 2);
        CHECK.yes("those not named too", x.has(0, 0, 1) && x.has(0, 1, 0));
        CHECK.no("no others", x.has(0, 2, 3) || x.has(0, 0, 2));
        CHECK.same("one class already", x.set(0, 0, 1), 0);
        CHECK.same("nothing changes", x.count(0), 18);
        CHECK.same("a thing with itself", x.set(0, 2, 2), 0);
        CHECK.same("nothing changes with itself", x.count(0), 18);
    }

    /** "A PAIR (a, b) that goes: in FORMS 4, 5 also (b, a)" */
    private static void goesBothWays() {
        for (int form = 0; form <= 3; form++) {
            Rows x = Scenes.withPairs(2, form, 0, 1, 1, 0);
            x.drop(0, 0, 1);
            CHECK.pairs("turned it stays in form " + form, x, 0, " 1-0");
        }
        for (int form = 4; form <= 5; form++) {
            Rows x = Scenes.withPairs(4, form, 0, 1, 3, 2);
            x.drop(0, 0, 1);
            CHECK.pairs("as it was set, form " + form, x, 0, " 2-3 3-2");
            x.drop(0, 2, 3);
            CHECK.pairs("the other way round, form " + form, x, 0, "");
        }
    }

    /** "in FORM 6 a is alone then" */
    private static void classGoes() {
        Rows x = Scenes.withPairs(5, 6, 0, 1, 1, 2, 2, 3);
        x.drop(0, 0, 3);
        CHECK.pairs("a alone, the others together", x, 0, " 0-0 1-1 1-2 1-3 2-1 2-2 2-3 3-1 3-2 3-3 4-4");
        x.drop(0, 3, 1);
        CHECK.pairs("the other one this time", x, 0, " 0-0 1-1 1-2 2-1 2-2 3-3 4-4");
        x.drop(0, 2, 1);
        CHECK.pairs("of two both are alone", x, 0, " 0-0 1-1 2-2 3-3 4-4");
        Rows forty = Scenes.chain(40, 6);
        forty.drop(0, 20, 39);
        CHECK.same("of forty, thirty-nine stay together", forty.count(0), 39 * 39 + 1);
        CHECK.yes("across the gap", forty.has(0, 19, 21));
    }

    /** "(if a is not b)" */
    private static void classGoesWithItself() {
        Rows x = Scenes.withPairs(3, 6, 0, 1);
        CHECK.no("with itself, of two", x.drop(0, 0, 0));
        CHECK.no("with itself, alone", x.drop(0, 2, 2));
        CHECK.pairs("nothing went", x, 0, " 0-0 0-1 1-0 1-1 2-2");
    }

    /** "A ROUTE .. (a alone, if a is b)" */
    private static void routeAlone() {
        Rows x = Scenes.withPairs(3, 3, 0, 0, 0, 1, 1, 0);
        for (int a = 0; a < 3; a++) {
            int thing = a;
            CHECK.same("no step", x.length(0, a, a), 0);
            CHECK.same("itself", x.route(0, a, a, 0), a);
            CHECK.noElement("no second", x, () -> x.route(0, thing, thing, 1));
        }
        Rows one = new Rows(1);
        one.relation(4, NONE, NONE);
        CHECK.same("the only thing", one.route(0, 0, 0, 0), 0);
        CHECK.same("the only thing, no step", one.length(0, 0, 0), 0);
    }

    /** "as short as can be" */
    private static void routeAsShortAsCanBe() {
        Rows x = Scenes.withPairs(6, 3, 0, 1, 1, 2, 2, 3, 0, 5, 5, 3);
        CHECK.same("by greater numbers, but shorter", x.length(0, 0, 3), 2);
        CHECK.same("its second", x.route(0, 0, 3, 1), 5);
        x.set(0, 0, 3);
        CHECK.same("at once", x.length(0, 0, 3), 1);
        CHECK.same("at once, its second", x.route(0, 0, 3, 1), 3);
        CHECK.same("not the other way", x.length(0, 3, 0), NONE);
    }

    /** "of those as short the first one by its second THING" */
    private static void routeFirstBySecondThing() {
        Rows x = Scenes.withPairs(7, 3, 0, 2, 2, 5, 5, 6, 0, 1, 1, 4, 4, 6);
        CHECK.same("second", x.route(0, 0, 6, 1), 1);
        CHECK.same("third", x.route(0, 0, 6, 2), 4);
        Rows y = Scenes.withPairs(7, 3, 0, 1, 1, 5, 5, 6, 0, 2, 2, 3, 3, 6);
        CHECK.same("second, though its third is greater", y.route(0, 0, 6, 1), 1);
        CHECK.same("the greater third", y.route(0, 0, 6, 2), 5);
        y.drop(0, 5, 6);
        CHECK.same("the least second leads nowhere now", y.route(0, 0, 6, 1), 2);
        CHECK.same("and its third", y.route(0, 0, 6, 2), 3);
    }

    /** "then by its third, and so on (lesser numbers first)" */
    private static void routeThenByThirdThing() {
        Rows x = Scenes.withPairs(9, 3, 8, 7, 7, 6, 7, 5, 6, 1, 5, 4, 5, 3, 1, 0, 4, 0, 3, 0);
        int[] due = {8, 7, 5, 3, 0};
        for (int i = 0; i < due.length; i++) {
            CHECK.same("thing " + i, x.route(0, 8, 0, i), due[i]);
        }
        x.drop(0, 3, 0);
        CHECK.same("by its fourth", x.route(0, 8, 0, 3), 4);
        x.drop(0, 5, 4);
        CHECK.same("by its third", x.route(0, 8, 0, 2), 6);
        CHECK.same("and its fourth", x.route(0, 8, 0, 3), 1);
    }

    /** "a row of THINGS a, .., b": as long as can be. */
    private static void routeAsLongAsCanBe() {
        Rows x = Scenes.chain(40, 2);
        CHECK.same("thirty-nine steps", x.length(0, 0, 39), 39);
        for (int i = 0; i < 40; i++) {
            CHECK.same("thing " + i, x.route(0, 0, 39, i), i);
        }
        CHECK.noElement("one beyond", x, () -> x.route(0, 0, 39, 40));
        CHECK.same("no way back", x.length(0, 39, 0), NONE);
        x.set(0, 39, 0);
        CHECK.same("round the ring", x.length(0, 20, 19), 39);
        CHECK.same("round the ring, thing 20", x.route(0, 20, 19, 20), 0);
        Rows two = Scenes.chain(2, 4);
        CHECK.same("of two", two.length(0, 1, 0), 1);
        CHECK.same("of two, its last", two.route(0, 1, 0, 1), 0);
    }
}
