/** Each promise of the document by itself: ordinary calls, the edges it names, and wrong calls. */
public final class PromisesTest {
    private static final int NONE = RelationRows.NONE;
    private static final int LEAST = Scenes.LEAST;
    private static final int MOST = Scenes.MOST;

    private static final Check CHECK = new Check();

    private PromisesTest() {
    }

    public static void main(String[] args) {
        promise1NewObject();
        promise2Clear();
        promise3Kind();
        promise4Relation();
        promise5Condition();
        promise5ConditionsTell();
        promise5ConditionsAsJustThen();
        promise6SetPushes();
        promise6SetRefuses();
        promise7Drop();
        promise8Empty();
        promise9Pushed();
        promise10Has();
        promise11Next();
        promise12Back();
        promise13Count();
        promise14Length();
        promise15Route();
        promise16Leader();
        promise17Differ();
        promise18Tally();
        promise19Of();
        promise20Told();
        CHECK.end();
    }

    private static void pairs(String what, Rows x, int relation, String want) {
        CHECK.pairs(what, x, relation, want);
    }

    private static void promise1NewObject() {
        int[][] asked = {{1, 1}, {2, 2}, {39, 39}, {40, 40}, {41, 40}, {0, 1}, {-1, 1}, {LEAST, 1}, {MOST, 40}};
        for (int[] row : asked) {
            Rows x = new Rows(row[0]);
            CHECK.sameText("new " + row[0], Snapshot.of(x), row[1] + " things, 0 relations, pushed\ntallies");
            CHECK.same("new " + row[0] + ": kind of the last thing", x.kind(row[1] - 1, 0), 0);
            CHECK.badArgument("new " + row[0] + ": kind of one more", x, () -> x.kind(row[1], 0));
        }
    }

    private static void promise2Clear() {
        Rows x = Scenes.sixOfThreeKinds();
        x.relation(0, NONE, NONE);
        x.condition(1, 0, NONE);
        x.set(0, 1, 2);
        x.set(0, 1, 3);
        CHECK.same("clear of two", x.clear(), 2);
        CHECK.sameText("cleared", Snapshot.of(x), "6 things, 0 relations, pushed\ntallies");
        CHECK.same("clear again", x.clear(), 0);
        for (int thing = 0; thing < 6; thing++) {
            CHECK.same("kind after clear", x.kind(thing, 3), 0);
        }
        CHECK.same("relation after clear", x.relation(3, NONE, NONE), 0);
        pairs("no pairs of old", x, 0, "");
        CHECK.same("condition after clear", x.condition(5, 0, NONE), 1);
        pairs("no pairs of old by condition", x, 1, "");
    }

    private static void promise3Kind() {
        Rows x = new Rows(3);
        CHECK.same("kind at first", x.kind(1, 3), 0);
        CHECK.same("kind then", x.kind(1, 1), 3);
        CHECK.same("kind like before", x.kind(1, 1), 1);
        CHECK.same("kind of another", x.kind(2, 0), 0);
        for (int bad : new int[] {-1, 3, LEAST, MOST}) {
            CHECK.badArgument("kind of thing " + bad, x, () -> x.kind(bad, 0));
        }
        for (int bad : new int[] {-1, 4, LEAST, MOST}) {
            CHECK.badArgument("kind " + bad, x, () -> x.kind(0, bad));
        }
        CHECK.same("a refused kind is not kept", x.kind(0, 0), 0);
        x.relation(3, 1, NONE);
        CHECK.badState("kind with relations", x, () -> x.kind(0, 1));
        CHECK.badState("kind as it is, with relations", x, () -> x.kind(1, 1));
        CHECK.badArgument("no such thing comes first", x, () -> x.kind(3, 1));
        CHECK.badArgument("no such kind comes first", x, () -> x.kind(0, 4));
        CHECK.badArgument("thing 0 kept its kind", x, () -> x.set(0, 0, 0));
        CHECK.same("thing 1 kept its kind", x.set(0, 1, 0), 0);
    }

    private static void promise4Relation() {
        Rows x = Scenes.sixOfThreeKinds();
        CHECK.badArgument("form -1", x, () -> x.relation(-1, 0, 0));
        CHECK.badArgument("form 7", x, () -> x.relation(7, 0, 0));
        CHECK.badArgument("form 10", x, () -> x.relation(10, 0, 0));
        for (int bad : new int[] {-2, 4, LEAST, MOST}) {
            CHECK.badArgument("first kind " + bad, x, () -> x.relation(3, bad, 0));
            CHECK.badArgument("second kind " + bad, x, () -> x.relation(3, 0, bad));
            CHECK.badArgument("like kinds " + bad, x, () -> x.relation(6, bad, bad));
        }
        for (int form = 0; form <= 6; form++) {
            int f = form;
            if (form >= 4) {
                CHECK.badArgument("unlike kinds of form " + form, x, () -> x.relation(f, 0, 1));
                CHECK.badArgument("any and 3 of form " + form, x, () -> x.relation(f, NONE, 3));
                CHECK.same("form " + form, x.relation(form, 3, 3), form);
            } else {
                CHECK.same("form " + form, x.relation(form, form - 1, 3 - form), form);
            }
            pairs("a new relation of form " + form, x, form, "");
        }
        CHECK.same("classes of any kind", x.relation(6, NONE, NONE), 7);
        pairs("each alone", x, 7, " 0-0 1-1 2-2 3-3 4-4 5-5");
        CHECK.same("classes of kind 1", x.relation(6, 1, 1), 8);
        pairs("each of kind 1 alone", x, 8, " 2-2 3-3");
        for (int made = 9; made < 12; made++) {
            CHECK.same("relation " + made, x.relation(0, NONE, NONE), made);
        }
        CHECK.badState("a thirteenth", x, () -> x.relation(0, NONE, NONE));
        CHECK.badArgument("no such form comes first", x, () -> x.relation(7, NONE, NONE));
        CHECK.badArgument("no such kind comes first", x, () -> x.relation(0, 4, NONE));
        CHECK.badArgument("unlike kinds come first", x, () -> x.relation(5, 1, 2));
    }

    private static void promise5Condition() {
        Rows x = new Rows(3);
        CHECK.badArgument("no relation yet", x, () -> x.condition(0, 0, NONE));
        x.relation(3, NONE, NONE);
        CHECK.badArgument("condition -1", x, () -> x.condition(-1, 0, 0));
        CHECK.badArgument("condition 6", x, () -> x.condition(6, 0, 0));
        for (int condition = 0; condition <= 5; condition++) {
            int c = condition;
            boolean two = condition >= 2 && condition <= 4;
            int s = two ? 0 : NONE;
            for (int bad : new int[] {-1, condition + 1, LEAST, MOST}) {
                CHECK.badArgument(condition + " on r " + bad, x, () -> x.condition(c, bad, s));
            }
            for (int bad : new int[] {-2, condition + 1, LEAST, MOST}) {
                CHECK.badArgument(condition + " on s " + bad, x, () -> x.condition(c, 0, bad));
            }
            CHECK.badArgument(condition + " with the wrong s", x, () -> x.condition(c, 0, two ? NONE : 0));
            CHECK.same("condition " + condition, x.condition(condition, 0, s), condition + 1);
        }
        for (int made = 7; made < 12; made++) {
            CHECK.same("on a condition", x.condition(2, made - 1, made - 2), made);
        }
        CHECK.badState("a thirteenth", x, () -> x.condition(1, 0, NONE));
        CHECK.badArgument("no such condition comes first", x, () -> x.condition(6, 0, NONE));
        CHECK.badArgument("no such r comes first", x, () -> x.condition(1, 12, NONE));
        CHECK.badArgument("no such s comes first", x, () -> x.condition(2, 0, 12));
    }

    private static void promise5ConditionsTell() {
        Rows x = Scenes.withPairs(4, 3, 0, 1, 1, 2);
        x.relation(3, NONE, NONE);
        x.set(1, 1, 2);
        x.set(1, 2, 3);
        int turned = x.condition(0, 0, NONE);
        int not = x.condition(1, 0, NONE);
        int both = x.condition(2, 0, 1);
        int either = x.condition(3, 0, 1);
        int through = x.condition(4, 0, 1);
        int far = x.condition(5, either, NONE);
        int onFar = x.condition(0, far, NONE);
        pairs("turned", x, turned, " 1-0 2-1");
        pairs("not", x, not, " 0-0 0-2 0-3 1-0 1-1 1-3 2-0 2-1 2-2 2-3 3-0 3-1 3-2 3-3");
        pairs("both", x, both, " 1-2");
        pairs("either", x, either, " 0-1 1-2 2-3");
        pairs("through", x, through, " 0-2 1-3");
        pairs("far", x, far, " 0-1 0-2 0-3 1-2 1-3 2-3");
        pairs("far turned", x, onFar, " 1-0 2-0 2-1 3-0 3-1 3-2");
        x.set(0, 3, 3);
        pairs("turned then", x, turned, " 1-0 2-1 3-3");
        pairs("far then", x, far, " 0-1 0-2 0-3 1-2 1-3 2-3 3-3");
        x.drop(1, 1, 2);
        pairs("both then", x, both, "");
        pairs("through then", x, through, " 1-3");
        x.empty(0);
        pairs("far of what is left", x, far, " 2-3");
        pairs("far of what is left, turned", x, onFar, " 3-2");
        x.set(1, 3, 2);
        pairs("far round a ring", x, far, " 2-2 2-3 3-2 3-3");
        Rows ways = Scenes.withPairs(4, 3, 1, 0, 0, 2, 1, 3, 3, 2);
        ways.condition(4, 0, 0);
        ways.condition(5, 0, NONE);
        pairs("through by two ways", ways, 1, " 1-2");
        pairs("far by two ways", ways, 2, " 0-2 1-0 1-2 1-3 3-2");
        ways.drop(0, 3, 2);
        pairs("through by way of 0", ways, 1, " 1-2");
        pairs("far by way of 0", ways, 2, " 0-2 1-0 1-2 1-3");
        Rows full = Scenes.withPairs(40, 3, 39, 0);
        full.condition(1, 0, NONE);
        CHECK.same("not among forty", full.count(1), 1599);
    }

    /** Each call sees the last change by itself, with no other call between that could have seen it first. */
    private static void promise5ConditionsAsJustThen() {
        Rows x = Scenes.withPairs(4, 3, 0, 1);
        int turned = x.condition(0, 0, NONE);
        int far = x.condition(5, turned, NONE);
        CHECK.yes("has", x.has(far, 1, 0));
        x.set(0, 1, 2);
        CHECK.same("route", x.route(turned, 2, 0, 1), 1);
        x.set(0, 2, 3);
        CHECK.same("length", x.length(turned, 3, 0), 3);
        x.drop(0, 0, 1);
        CHECK.same("count", x.count(far), 3);
        x.drop(0, 2, 3);
        CHECK.same("differ", x.differ(far, turned), NONE);
        x.set(0, 3, 2);
        CHECK.same("next", x.next(far, 2, 1), 3);
        x.empty(0);
        CHECK.same("differ the other way", x.differ(0, far), NONE);
        x.set(0, 3, 0);
        CHECK.same("back", x.back(far, 3, 0), 0);
        x.drop(0, 3, 0);
        CHECK.no("has no more", x.has(far, 0, 3));
        int classes = x.relation(6, NONE, NONE);
        int both = x.condition(2, classes, turned);
        CHECK.same("both have none", x.count(both), 0);
        x.set(classes, 1, 0);
        x.set(0, 1, 0);
        CHECK.yes("two changes at once", x.has(both, 0, 1));
    }

    private static void promise6SetPushes() {
        Rows one = Scenes.withPairs(5, 0, 0, 1, 2, 3);
        CHECK.same("one to one, two pushed", one.set(0, 0, 3), 2);
        CHECK.sameText("one to one", Snapshot.of(one), "5 things, 1 relations, pushed 0-1 2-3\n"
                + "0: 0 -1 -1 pairs 0-3\ntallies 0-1=1 0-3=1 2-3=1");
        CHECK.same("a pair that was there pushes none", one.set(0, 0, 3), 0);
        CHECK.same("those before are told no more", one.of(2), 0);
        CHECK.same("first again", one.set(0, 0, 0), 1);
        CHECK.same("second again", one.set(0, 4, 0), 1);
        CHECK.same("told first of the second again", one.pushed(0, 0), 0);
        pairs("one to one at last", one, 0, " 4-0");

        Rows many = Scenes.withPairs(4, 1, 0, 1, 0, 2, 0, 0);
        CHECK.same("one to many", many.set(0, 3, 2), 1);
        CHECK.same("one to many told", many.pushed(0, 0) * 10 + many.pushed(0, 1), 2);
        pairs("one to many", many, 0, " 0-0 0-1 3-2");

        Rows toOne = Scenes.withPairs(4, 2, 1, 0, 2, 0, 0, 0);
        CHECK.same("many to one", toOne.set(0, 2, 3), 1);
        CHECK.same("many to one told", toOne.pushed(0, 0) * 10 + toOne.pushed(0, 1), 20);
        pairs("many to one", toOne, 0, " 0-0 1-0 2-3");

        Rows free = Scenes.withPairs(3, 3, 0, 1, 0, 2, 1, 1);
        CHECK.same("many to many", free.set(0, 2, 1), 0);
        pairs("many to many", free, 0, " 0-1 0-2 1-1 2-1");

        Rows twins = Scenes.withPairs(6, 4, 5, 0, 3, 2);
        pairs("twins both ways", twins, 0, " 0-5 2-3 3-2 5-0");
        CHECK.same("twins that were there, turned", twins.set(0, 0, 5), 0);
        CHECK.same("twins, two pushed", twins.set(0, 2, 0), 2);
        CHECK.sameText("twins", Snapshot.of(twins), "6 things, 1 relations, pushed 2-3 0-5\n"
                + "0: 4 -1 -1 pairs 0-2 2-0\ntallies 0-5=1 2-0=1 3-2=1 5-0=1");
        CHECK.same("twins, the second one had one", twins.set(0, 4, 2), 1);
        CHECK.same("twins, told", twins.pushed(0, 0) * 10 + twins.pushed(0, 1), 20);

        Rows mutual = Scenes.withPairs(4, 5, 0, 1, 2, 2);
        CHECK.same("mutual", mutual.set(0, 3, 0), 0);
        pairs("mutual both ways", mutual, 0, " 0-1 0-3 1-0 2-2 3-0");

        Rows classes = Scenes.withPairs(5, 6, 4, 1, 2, 3);
        CHECK.same("classes", classes.set(0, 3, 4), 0);
        pairs("classes become one", classes, 0, " 0-0 1-1 1-2 1-3 1-4 2-1 2-2 2-3 2-4 3-1 3-2 3-3 3-4 4-1 4-2 4-3 4-4");
        CHECK.same("a class with itself", classes.set(0, 0, 0), 0);
    }

    private static void promise6SetRefuses() {
        Rows x = Scenes.sixOfThreeKinds();
        x.relation(0, 0, 1);
        x.relation(4, 2, 2);
        x.relation(6, NONE, NONE);
        x.condition(1, 0, NONE);
        x.set(0, 0, 2);
        x.set(0, 0, 3);
        for (int bad : new int[] {-1, 4, LEAST, MOST}) {
            CHECK.badArgument("set in " + bad, x, () -> x.set(bad, 0, 2));
        }
        for (int bad : new int[] {-1, 6, LEAST, MOST}) {
            CHECK.badArgument("set from " + bad, x, () -> x.set(2, bad, 2));
            CHECK.badArgument("set to " + bad, x, () -> x.set(2, 0, bad));
            CHECK.badArgument("no such thing comes first", x, () -> x.set(3, 0, bad));
            CHECK.badArgument("no such thing comes first", x, () -> x.set(3, bad, 0));
        }
        CHECK.badArgument("the first does not fit", x, () -> x.set(0, 2, 2));
        CHECK.badArgument("the second does not fit", x, () -> x.set(0, 0, 1));
        CHECK.badArgument("turned it does not fit", x, () -> x.set(0, 2, 0));
        CHECK.badArgument("its own twin", x, () -> x.set(1, 4, 4));
        CHECK.badArgument("twins of another kind", x, () -> x.set(1, 0, 1));
        CHECK.badState("set by a condition", x, () -> x.set(3, 0, 0));
        CHECK.badState("set by a condition what is there", x, () -> x.set(3, 5, 5));
        CHECK.same("twins that fit", x.set(1, 5, 4), 0);
    }

    private static void promise7Drop() {
        for (int form = 0; form <= 3; form++) {
            Rows x = Scenes.withPairs(4, form, 0, 1, 1, 0, 2, 2);
            CHECK.yes("drop " + form, x.drop(0, 0, 1));
            CHECK.no("drop again " + form, x.drop(0, 0, 1));
            CHECK.yes("drop one with itself " + form, x.drop(0, 2, 2));
            pairs("left of form " + form, x, 0, " 1-0");
        }
        Rows twins = Scenes.withPairs(4, 4, 0, 1, 2, 3);
        CHECK.yes("drop twins", twins.drop(0, 1, 0));
        CHECK.no("drop no twins", twins.drop(0, 1, 2));
        pairs("twins left", twins, 0, " 2-3 3-2");
        CHECK.badArgument("drop its own twin", twins, () -> Scenes.number(twins.drop(0, 2, 2)));
        Rows mutual = Scenes.withPairs(4, 5, 0, 1, 2, 3, 1, 1);
        CHECK.yes("drop mutual", mutual.drop(0, 1, 0));
        CHECK.yes("drop mutual with itself", mutual.drop(0, 1, 1));
        pairs("mutual left", mutual, 0, " 2-3 3-2");
        Rows classes = Scenes.withPairs(4, 6, 0, 1, 1, 2);
        CHECK.no("drop in another class", classes.drop(0, 0, 3));
        CHECK.no("drop a class with itself", classes.drop(0, 1, 1));
        CHECK.same("nothing went", classes.count(0), 10);
        CHECK.yes("drop in a class", classes.drop(0, 1, 2));
        pairs("a is alone, b is not", classes, 0, " 0-0 0-2 1-1 2-0 2-2 3-3");
        CHECK.yes("drop in a class of two", classes.drop(0, 2, 0));
        pairs("all are alone", classes, 0, " 0-0 1-1 2-2 3-3");

        Rows x = Scenes.sixOfThreeKinds();
        x.relation(0, 0, 1);
        x.relation(6, 1, 1);
        x.condition(3, 0, 1);
        x.set(0, 0, 2);
        x.set(0, 0, 3);
        for (int bad : new int[] {-1, 3, LEAST, MOST}) {
            CHECK.badArgument("drop in " + bad, x, () -> Scenes.number(x.drop(bad, 0, 2)));
        }
        for (int bad : new int[] {-1, 6, LEAST, MOST}) {
            CHECK.badArgument("drop from " + bad, x, () -> Scenes.number(x.drop(0, bad, 2)));
            CHECK.badArgument("drop to " + bad, x, () -> Scenes.number(x.drop(2, 0, bad)));
        }
        CHECK.badArgument("drop what does not fit", x, () -> Scenes.number(x.drop(0, 2, 0)));
        CHECK.badArgument("drop a thing of no class", x, () -> Scenes.number(x.drop(1, 0, 0)));
        CHECK.badState("drop by a condition", x, () -> Scenes.number(x.drop(2, 0, 3)));
        CHECK.yes("drop leaves what was pushed out", x.drop(0, 0, 3) && x.of(2) == 1 && x.pushed(0, 1) == 2);
    }

    private static void promise8Empty() {
        int[] less = {2, 2, 2, 3, 4, 5, 12};
        for (int form = 0; form <= 6; form++) {
            Rows x = new Rows(5);
            x.kind(4, 1);
            x.relation(form, 0, 0);
            x.set(0, 0, 1);
            x.set(0, 2, 3);
            if (form == 3 || form == 5) {
                x.set(0, 2, 2);
            }
            if (form == 6) {
                x.set(0, 1, 2);
            }
            int tally = x.tally(0, 1);
            CHECK.same("empty " + form, x.empty(0), less[form]);
            pairs("left of form " + form, x, 0, form == 6 ? " 0-0 1-1 2-2 3-3" : "");
            CHECK.same("empty again " + form, x.empty(0), 0);
            CHECK.same("tallies stay " + form, x.tally(0, 1), tally);
        }
        Rows x = Scenes.withPairs(3, 0, 0, 1, 0, 2);
        x.condition(0, 0, NONE);
        for (int bad : new int[] {-1, 2, LEAST, MOST}) {
            CHECK.badArgument("empty " + bad, x, () -> x.empty(bad));
        }
        CHECK.badState("empty by a condition", x, () -> x.empty(1));
        CHECK.same("empty one", x.empty(0), 1);
        CHECK.same("empty leaves what was pushed out", x.pushed(0, 1), 1);
        CHECK.same("empty reaches conditions", x.count(1), 0);
    }

    private static void promise9Pushed() {
        Rows x = new Rows(5);
        CHECK.noElement("nothing yet", x, () -> x.pushed(0, 0));
        x.relation(0, NONE, NONE);
        x.relation(3, NONE, NONE);
        x.set(0, 1, 2);
        x.set(0, 3, 4);
        x.set(0, 1, 4);
        CHECK.same("0, 0", x.pushed(0, 0), 1);
        CHECK.same("0, 1", x.pushed(0, 1), 2);
        CHECK.same("1, 0", x.pushed(1, 0), 3);
        CHECK.same("1, 1", x.pushed(1, 1), 4);
        for (int bad : new int[] {-1, 2, LEAST, MOST}) {
            CHECK.badArgument("which " + bad, x, () -> x.pushed(0, bad));
            CHECK.noElement("pair " + bad, x, () -> x.pushed(bad, 0));
            CHECK.noElement("pair " + bad, x, () -> x.pushed(bad, 1));
            CHECK.badArgument("which comes first " + bad, x, () -> x.pushed(2, bad));
        }
        x.relation(3, NONE, NONE);
        x.condition(1, 0, NONE);
        CHECK.same("a new relation leaves them", x.pushed(1, 1), 4);
        x.set(1, 0, 0);
        CHECK.noElement("a set in another relation does not", x, () -> x.pushed(0, 0));
    }

    private static void promise10Has() {
        Rows x = Scenes.sixOfThreeKinds();
        x.relation(2, 0, 1);
        x.relation(6, 1, 1);
        x.condition(1, 0, NONE);
        x.relation(4, NONE, NONE);
        x.set(0, 1, 2);
        CHECK.yes("has", x.has(0, 1, 2));
        CHECK.no("has not, turned, which does not fit", x.has(0, 2, 1));
        CHECK.no("has not", x.has(0, 0, 2));
        CHECK.no("of another kind", x.has(1, 0, 0));
        CHECK.yes("alone in a class", x.has(1, 3, 3));
        CHECK.yes("by a condition", x.has(2, 2, 1));
        CHECK.no("by a condition not", x.has(2, 1, 2));
        CHECK.no("its own twin is asked without harm", x.has(3, 1, 1));
        for (int bad : new int[] {-1, 4, LEAST, MOST}) {
            CHECK.badArgument("has in " + bad, x, () -> Scenes.number(x.has(bad, 0, 0)));
        }
        for (int bad : new int[] {-1, 6, LEAST, MOST}) {
            CHECK.badArgument("has from " + bad, x, () -> Scenes.number(x.has(0, bad, 0)));
            CHECK.badArgument("has to " + bad, x, () -> Scenes.number(x.has(0, 0, bad)));
        }
        Rows forty = Scenes.withPairs(40, 3, 39, 39, 0, 39, 31, 32);
        CHECK.yes("the last thing", forty.has(0, 39, 39) && forty.has(0, 0, 39) && forty.has(0, 31, 32));
        CHECK.same("and no others", forty.count(0), 3);
    }

    private static void promise11Next() {
        Rows x = Scenes.withPairs(40, 3, 5, 39, 5, 0, 5, 32, 5, 7, 6, 1);
        int[] due = {0, 7, 32, 39};
        for (int i = 0; i < due.length; i++) {
            CHECK.same("next " + i, x.next(0, 5, i), due[i]);
        }
        for (int bad : new int[] {-1, 4, LEAST, MOST}) {
            CHECK.noElement("next " + bad, x, () -> x.next(0, 5, bad));
        }
        CHECK.noElement("next of none", x, () -> x.next(0, 0, 0));
        for (int bad : new int[] {-1, 40, LEAST, MOST}) {
            CHECK.badArgument("next of " + bad, x, () -> x.next(0, bad, 0));
            CHECK.badArgument("next in " + bad, x, () -> x.next(bad, 5, 0));
            CHECK.badArgument("no such thing comes first", x, () -> x.next(0, bad, -1));
        }
        x.condition(1, 0, NONE);
        CHECK.same("next by a condition", x.next(1, 5, 35), 38);
    }

    private static void promise12Back() {
        Rows x = Scenes.withPairs(40, 3, 39, 5, 0, 5, 32, 5, 7, 5, 1, 6);
        int[] due = {0, 7, 32, 39};
        for (int i = 0; i < due.length; i++) {
            CHECK.same("back " + i, x.back(0, 5, i), due[i]);
        }
        for (int bad : new int[] {-1, 4, LEAST, MOST}) {
            CHECK.noElement("back " + bad, x, () -> x.back(0, 5, bad));
        }
        CHECK.noElement("back of none", x, () -> x.back(0, 0, 0));
        for (int bad : new int[] {-1, 40, LEAST, MOST}) {
            CHECK.badArgument("back of " + bad, x, () -> x.back(0, bad, 0));
            CHECK.badArgument("back in " + bad, x, () -> x.back(bad, 5, 0));
            CHECK.badArgument("no such thing comes first", x, () -> x.back(0, bad, -1));
        }
        x.condition(1, 0, NONE);
        CHECK.same("back by a condition", x.back(1, 5, 35), 38);
    }

    private static void promise13Count() {
        int[] due = {2, 2, 2, 2, 4, 4, 8};
        for (int form = 0; form <= 6; form++) {
            Rows x = Scenes.withPairs(4, form, 0, 1, 2, 3);
            CHECK.same("count " + form, x.count(0), due[form]);
        }
        Rows x = Scenes.withPairs(5, 5, 1, 1, 1, 2);
        CHECK.same("count of mutual ones", x.count(0), 3);
        for (int bad : new int[] {-1, 1, LEAST, MOST}) {
            CHECK.badArgument("count in " + bad, x, () -> x.count(bad));
        }
        x.condition(1, 0, NONE);
        CHECK.same("count by a condition", x.count(1), 22);
    }

    private static void promise14Length() {
        Rows x = Scenes.withPairs(6, 3, 0, 1, 1, 2, 2, 3, 0, 4, 4, 3, 3, 0);
        CHECK.same("to itself", x.length(0, 0, 0), 0);
        CHECK.same("to itself, without pairs", x.length(0, 5, 5), 0);
        CHECK.same("one step", x.length(0, 0, 4), 1);
        CHECK.same("the shorter way", x.length(0, 0, 3), 2);
        CHECK.same("round", x.length(0, 1, 0), 3);
        CHECK.same("no way", x.length(0, 0, 5), NONE);
        CHECK.same("no way from there", x.length(0, 5, 0), NONE);
        for (int bad : new int[] {-1, 1, LEAST, MOST}) {
            CHECK.badArgument("length in " + bad, x, () -> x.length(bad, 0, 0));
        }
        for (int bad : new int[] {-1, 6, LEAST, MOST}) {
            CHECK.badArgument("length from " + bad, x, () -> x.length(0, bad, 0));
            CHECK.badArgument("length to " + bad, x, () -> x.length(0, 0, bad));
        }
        x.condition(0, 0, NONE);
        CHECK.same("by a condition", x.length(1, 0, 1), 3);
        Rows chain = new Rows(40);
        chain.relation(0, NONE, NONE);
        for (int a = 0; a < 39; a++) {
            chain.set(0, 39 - a, 38 - a);
        }
        CHECK.same("the longest", chain.length(0, 39, 0), 39);
        CHECK.same("the last of the longest", chain.route(0, 39, 0, 39), 0);
        Rows kinds = Scenes.sixOfThreeKinds();
        kinds.relation(3, 0, 1);
        kinds.relation(4, 2, 2);
        kinds.set(0, 0, 2);
        CHECK.same("ends that do not fit", kinds.length(0, 2, 0), NONE);
        CHECK.same("a thing of another kind, alone", kinds.length(0, 5, 5), 0);
        CHECK.same("a twin, alone", kinds.length(1, 4, 4), 0);
    }

    private static void promise15Route() {
        Rows x = Scenes.withPairs(8, 3, 0, 6, 0, 1, 0, 2, 1, 5, 2, 4, 6, 3, 5, 7, 4, 7, 3, 7, 1, 6);
        routeIs(x, 0, 0, 7, 0, 1, 5, 7);
        x.drop(0, 1, 5);
        routeIs(x, 0, 0, 7, 0, 2, 4, 7);
        x.set(0, 2, 3);
        routeIs(x, 0, 0, 7, 0, 2, 3, 7);
        x.set(0, 6, 7);
        routeIs(x, 0, 0, 7, 0, 6, 7);
        routeIs(x, 0, 7, 7, 7);
        CHECK.noElement("no route", x, () -> x.route(0, 7, 0, 0));
        CHECK.noElement("no route, thing -1", x, () -> x.route(0, 7, 0, -1));
        for (int bad : new int[] {-1, 3, LEAST, MOST}) {
            CHECK.noElement("route " + bad, x, () -> x.route(0, 0, 7, bad));
        }
        CHECK.noElement("a alone has no second", x, () -> x.route(0, 3, 3, 1));
        for (int bad : new int[] {-1, 1, LEAST, MOST}) {
            CHECK.badArgument("route in " + bad, x, () -> x.route(bad, 0, 7, 0));
        }
        for (int bad : new int[] {-1, 8, LEAST, MOST}) {
            CHECK.badArgument("route from " + bad, x, () -> x.route(0, bad, 7, 0));
            CHECK.badArgument("route to " + bad, x, () -> x.route(0, 0, bad, 0));
            CHECK.badArgument("no such thing comes first", x, () -> x.route(0, 0, bad, 9));
        }
        x.condition(0, 0, NONE);
        routeIs(x, 1, 7, 0, 7, 6, 0);
        Rows ring = Scenes.withPairs(3, 3, 0, 0, 0, 1, 1, 0);
        routeIs(ring, 0, 0, 0, 0);
        routeIs(ring, 0, 0, 1, 0, 1);
    }

    private static void routeIs(Rows x, int relation, int a, int b, int... due) {
        CHECK.same("length of the route", x.length(relation, a, b), due.length - 1);
        for (int i = 0; i < due.length; i++) {
            CHECK.same("route " + a + " " + b + " " + i, x.route(relation, a, b, i), due[i]);
        }
        CHECK.noElement("route's end", x, () -> x.route(relation, a, b, due.length));
    }

    private static void promise16Leader() {
        Rows x = Scenes.sixOfThreeKinds();
        x.relation(6, NONE, NONE);
        x.relation(6, 1, 1);
        x.relation(5, NONE, NONE);
        x.condition(0, 0, NONE);
        CHECK.same("alone", x.leader(0, 5), 5);
        x.set(0, 5, 3);
        x.set(0, 3, 4);
        CHECK.same("of three", x.leader(0, 5), 3);
        CHECK.same("of three", x.leader(0, 3), 3);
        x.set(0, 4, 1);
        CHECK.same("of four", x.leader(0, 5), 1);
        x.drop(0, 1, 5);
        CHECK.same("of three again", x.leader(0, 4), 3);
        CHECK.same("alone again", x.leader(0, 1), 1);
        CHECK.same("of its kind", x.leader(1, 3), 3);
        CHECK.badArgument("of another kind", x, () -> x.leader(1, 0));
        CHECK.badState("not of form 6", x, () -> x.leader(2, 0));
        CHECK.badState("by a condition", x, () -> x.leader(3, 0));
        for (int bad : new int[] {-1, 4, LEAST, MOST}) {
            CHECK.badArgument("leader in " + bad, x, () -> x.leader(bad, 0));
        }
        for (int bad : new int[] {-1, 6, LEAST, MOST}) {
            CHECK.badArgument("leader of " + bad, x, () -> x.leader(0, bad));
            CHECK.badArgument("no such thing comes first", x, () -> x.leader(2, bad));
        }
        Rows forty = Scenes.withPairs(40, 6, 39, 38);
        CHECK.same("of the last ones", forty.leader(0, 39), 38);
    }

    private static void promise17Differ() {
        Rows x = Scenes.withPairs(40, 3, 3, 4, 39, 39);
        x.relation(3, NONE, NONE);
        CHECK.same("with itself", x.differ(0, 0), NONE);
        CHECK.same("the first has", x.differ(0, 1), 124);
        CHECK.same("the second has", x.differ(1, 0), 124);
        x.set(1, 3, 4);
        CHECK.same("the last pair", x.differ(0, 1), 1599);
        x.set(1, 4, 0);
        x.set(0, 3, 39);
        CHECK.same("by a, then by b", x.differ(0, 1), 159);
        x.set(0, 0, 0);
        CHECK.same("the first pair of all", x.differ(1, 0), 0);
        CHECK.same("empty ones are alike", withTwoEmpty().differ(0, 1), NONE);
        x.condition(0, 0, NONE);
        x.drop(0, 0, 0);
        CHECK.same("by a condition", x.differ(0, 2), 3 * 40 + 4);
        CHECK.same("by a condition, turned", x.differ(2, 0), 3 * 40 + 4);
        for (int bad : new int[] {-1, 3, LEAST, MOST}) {
            CHECK.badArgument("differ " + bad, x, () -> x.differ(bad, 0));
            CHECK.badArgument("differ from " + bad, x, () -> x.differ(0, bad));
        }
    }

    private static Rows withTwoEmpty() {
        Rows x = new Rows(3);
        x.relation(0, NONE, NONE);
        x.relation(5, 2, 2);
        return x;
    }

    private static void promise18Tally() {
        Rows x = Scenes.withPairs(40, 4, 39, 0);
        x.relation(3, NONE, NONE);
        CHECK.same("set once", x.tally(39, 0), 1);
        CHECK.same("the other way round was not set", x.tally(0, 39), 0);
        x.set(0, 39, 0);
        x.set(1, 39, 0);
        CHECK.same("there already, and in another", x.tally(39, 0), 3);
        x.drop(1, 39, 0);
        x.empty(0);
        CHECK.same("what goes is tallied still", x.tally(39, 0), 3);
        CHECK.badArgument("refused", x, () -> x.set(0, 1, 1));
        CHECK.same("refused is not tallied", x.tally(1, 1), 0);
        for (int bad : new int[] {-1, 40, LEAST, MOST}) {
            CHECK.badIndex("tally from " + bad, x, () -> x.tally(bad, 0));
            CHECK.badIndex("tally to " + bad, x, () -> x.tally(0, bad));
        }
        Rows small = Scenes.withPairs(2, 3, 1, 0);
        CHECK.badIndex("tally to 2 of 2", small, () -> small.tally(0, 2));
        x.clear();
        CHECK.same("after clear", x.tally(39, 0), 0);
    }

    private static void promise19Of() {
        Rows x = new Rows(7);
        CHECK.same("things", x.of(0), 7);
        CHECK.same("no relations", x.of(1), 0);
        x.relation(2, NONE, NONE);
        x.condition(1, 0, NONE);
        CHECK.same("relations", x.of(1), 2);
        x.set(0, 1, 2);
        CHECK.same("none pushed", x.of(2), 0);
        x.set(0, 1, 3);
        CHECK.same("one pushed", x.of(2), 1);
        for (int bad : new int[] {-1, 3, LEAST, MOST}) {
            CHECK.badArgument("of " + bad, x, () -> x.of(bad));
        }
    }

    private static void promise20Told() {
        Rows x = new Rows(3);
        x.relation(1, 3, NONE);
        x.relation(6, 2, 2);
        x.condition(4, 1, 0);
        x.condition(5, 2, NONE);
        int[][] due = {{1, 3, NONE}, {6, 2, 2}, {14, 1, 0}, {15, 2, NONE}};
        for (int relation = 0; relation < due.length; relation++) {
            for (int what = 0; what < 3; what++) {
                CHECK.same("told " + relation + " " + what, x.told(relation, what), due[relation][what]);
            }
        }
        for (int bad : new int[] {-1, 4, LEAST, MOST}) {
            CHECK.badArgument("told of " + bad, x, () -> x.told(bad, 0));
        }
        for (int bad : new int[] {-1, 3, LEAST, MOST}) {
            CHECK.badArgument("told what " + bad, x, () -> x.told(0, bad));
        }
    }
}
