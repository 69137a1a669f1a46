/** The edges that promises 10 to 20 name: a method for each sentence, which stands above it. */
public final class EdgesOfAskingTest {
    private static final int NONE = Scenes.NONE;
    private static final Check CHECK = new Check();

    private EdgesOfAskingTest() {
    }

    public static void main(String[] args) {
        hasWhatDoesNotFit();
        hasNoSuch();
        nextFromZeroByNumbers();
        nextAsManyAsCanBe();
        nextNoSuch();
        backFromZeroByNumbers();
        backAsManyAsCanBe();
        backNoSuch();
        countNoneAndAll();
        lengthOrNone();
        routeFromZero();
        routeOfNone();
        leaderIsTheLeast();
        leaderOfAnotherKind();
        leaderNotOfFormSix();
        leaderNoSuch();
        differByAThenByB();
        differTimesForty();
        differNone();
        tallyAlsoWhenItWasThere();
        tallyInAllRelations();
        tallySinceTheBeginning();
        tallyNoSuchThing();
        ofWhat();
        toldOfForms();
        toldOfConditions();
        CHECK.end();
    }

    /** "(One that does not FIT is none.)" */
    private static void hasWhatDoesNotFit() {
        Rows x = Scenes.sixOfThreeKinds();
        for (int form = 0; form <= 6; form++) {
            x.relation(form, 1, 1);
        }
        for (int form = 0; form <= 6; form++) {
            x.set(form, 2, 3);
            CHECK.yes("fits, form " + form, x.has(form, 2, 3));
            CHECK.no("the first does not, form " + form, x.has(form, 0, 3));
            CHECK.no("the second does not, form " + form, x.has(form, 2, 4));
            CHECK.no("neither does, form " + form, x.has(form, 5, 5));
        }
    }

    /** "IllegalArgument: no such THING, RELATION." */
    private static void hasNoSuch() {
        Rows x = Scenes.withPairs(40, 3, 0, 0, 39, 39, 0, 39);
        CHECK.yes("the least", x.has(0, 0, 0));
        CHECK.yes("the greatest", x.has(0, 39, 39));
        for (int bad : Scenes.beyond(40)) {
            CHECK.badArgument("first " + bad, x, () -> Scenes.number(x.has(0, bad, 0)));
            CHECK.badArgument("second " + bad, x, () -> Scenes.number(x.has(0, 0, bad)));
        }
        for (int bad : Scenes.beyond(1)) {
            CHECK.badArgument("relation " + bad, x, () -> Scenes.number(x.has(bad, 0, 0)));
        }
    }

    /** "The i-th THING b, from 0, by numbers, with (a, b) a PAIR." */
    private static void nextFromZeroByNumbers() {
        Rows x = Scenes.withPairs(40, 3, 7, 39, 7, 31, 7, 0, 7, 32, 0, 7);
        int[] due = {0, 31, 32, 39};
        for (int i = 0; i < due.length; i++) {
            CHECK.same("next " + i, x.next(0, 7, i), due[i]);
        }
        for (int bad : Scenes.beyond(4)) {
            CHECK.noElement("next " + bad, x, () -> x.next(0, 7, bad));
        }
        CHECK.noElement("of none", x, () -> x.next(0, 39, 0));
        x.drop(0, 7, 31);
        CHECK.same("those behind move up", x.next(0, 7, 1), 32);
    }

    /** The same, with as many as can be. */
    private static void nextAsManyAsCanBe() {
        Rows x = Scenes.chain(40, 6);
        for (int b = 0; b < 40; b++) {
            CHECK.same("of all " + b, x.next(0, 20, b), b);
        }
        for (int bad : new int[] {-1, 40, 63, 64}) {
            CHECK.noElement("of all " + bad, x, () -> x.next(0, 20, bad));
        }
        Rows one = Scenes.withPairs(1, 2, 0, 0);
        CHECK.same("of one", one.next(0, 0, 0), 0);
        CHECK.noElement("of one, the second", one, () -> one.next(0, 0, 1));
    }

    /** next: "IllegalArgument" */
    private static void nextNoSuch() {
        Rows x = Scenes.withPairs(3, 6);
        x.condition(1, 0, NONE);
        for (int bad : Scenes.beyond(3)) {
            CHECK.badArgument("next of " + bad, x, () -> x.next(0, bad, 0));
            CHECK.badArgument("next of " + bad + " by a condition", x, () -> x.next(1, bad, 0));
        }
        for (int bad : Scenes.beyond(2)) {
            CHECK.badArgument("next in " + bad, x, () -> x.next(bad, 0, 0));
        }
    }

    /** "The i-th THING a with (a, b) a PAIR." */
    private static void backFromZeroByNumbers() {
        Rows x = Scenes.withPairs(40, 3, 39, 7, 31, 7, 0, 7, 32, 7, 7, 1);
        int[] due = {0, 31, 32, 39};
        for (int i = 0; i < due.length; i++) {
            CHECK.same("back " + i, x.back(0, 7, i), due[i]);
        }
        for (int bad : Scenes.beyond(4)) {
            CHECK.noElement("back " + bad, x, () -> x.back(0, 7, bad));
        }
        CHECK.noElement("of none", x, () -> x.back(0, 39, 0));
        x.drop(0, 31, 7);
        CHECK.same("those behind move up", x.back(0, 7, 1), 32);
    }

    /** The same, with as many as can be. */
    private static void backAsManyAsCanBe() {
        Rows x = Scenes.chain(40, 6);
        for (int a = 0; a < 40; a++) {
            CHECK.same("of all " + a, x.back(0, 20, a), a);
        }
        for (int bad : new int[] {-1, 40, 63, 64}) {
            CHECK.noElement("of all " + bad, x, () -> x.back(0, 20, bad));
        }
        Rows one = Scenes.withPairs(1, 1, 0, 0);
        CHECK.same("of one", one.back(0, 0, 0), 0);
        CHECK.noElement("of one, the second", one, () -> one.back(0, 0, 1));
    }

    /** back: "IllegalArgument" */
    private static void backNoSuch() {
        Rows x = Scenes.withPairs(3, 6);
        x.condition(1, 0, NONE);
        for (int bad : Scenes.beyond(3)) {
            CHECK.badArgument("back of " + bad, x, () -> x.back(0, bad, 0));
            CHECK.badArgument("back of " + bad + " by a condition", x, () -> x.back(1, bad, 0));
        }
        for (int bad : Scenes.beyond(2)) {
            CHECK.badArgument("back in " + bad, x, () -> x.back(bad, 0, 0));
        }
    }

    /** "How many PAIRS." */
    private static void countNoneAndAll() {
        for (int form = 0; form <= 6; form++) {
            CHECK.same("none of form " + form, Scenes.withPairs(40, form).count(0), form == 6 ? 40 : 0);
            Rows one = Scenes.withPairs(40, form, 39, 0);
            CHECK.same("one set in form " + form, one.count(0), form == 6 ? 42 : form >= 4 ? 2 : 1);
        }
        Rows all = Scenes.chain(40, 6);
        CHECK.same("all", all.count(0), 1600);
        for (int bad : Scenes.beyond(1)) {
            CHECK.badArgument("relation " + bad, all, () -> all.count(bad));
        }
    }

    /** "How many steps a ROUTE from a to b has; NONE." */
    private static void lengthOrNone() {
        Rows x = Scenes.chain(40, 3);
        CHECK.same("to itself", x.length(0, 39, 39), 0);
        CHECK.same("one", x.length(0, 38, 39), 1);
        CHECK.same("as many as can be", x.length(0, 0, 39), 39);
        CHECK.same("there is none", x.length(0, 39, 38), NONE);
        x.drop(0, 19, 20);
        CHECK.same("there is none any more", x.length(0, 0, 39), NONE);
        CHECK.same("in an empty relation", Scenes.withPairs(2, 3).length(0, 0, 1), NONE);
        CHECK.same("in two classes", Scenes.withPairs(2, 6).length(0, 0, 1), NONE);
        CHECK.same("in one class", Scenes.withPairs(3, 6, 0, 1, 1, 2).length(0, 0, 2), 1);
        for (int bad : Scenes.beyond(40)) {
            CHECK.badArgument("from " + bad, x, () -> x.length(0, bad, 0));
            CHECK.badArgument("to " + bad, x, () -> x.length(0, 0, bad));
            CHECK.badArgument("from and to " + bad, x, () -> x.length(0, bad, bad));
        }
        for (int bad : Scenes.beyond(1)) {
            CHECK.badArgument("in " + bad, x, () -> x.length(bad, 0, 0));
        }
    }

    /** "THING i, from 0, of the ROUTE from a to b." */
    private static void routeFromZero() {
        Rows x = Scenes.withPairs(4, 3, 3, 1, 1, 2);
        CHECK.same("its first is a", x.route(0, 3, 2, 0), 3);
        CHECK.same("between", x.route(0, 3, 2, 1), 1);
        CHECK.same("its last is b", x.route(0, 3, 2, 2), 2);
        for (int bad : Scenes.beyond(3)) {
            CHECK.noElement("thing " + bad, x, () -> x.route(0, 3, 2, bad));
        }
        for (int bad : Scenes.beyond(4)) {
            CHECK.badArgument("from " + bad, x, () -> x.route(0, bad, 2, 0));
            CHECK.badArgument("to " + bad, x, () -> x.route(0, 3, bad, 0));
        }
        for (int bad : Scenes.beyond(1)) {
            CHECK.badArgument("in " + bad, x, () -> x.route(bad, 3, 2, 0));
        }
    }

    /** "NoSuchElement.": where there is no route, it has no thing at all. */
    private static void routeOfNone() {
        Rows x = Scenes.withPairs(4, 3, 3, 1, 1, 2);
        for (int i : new int[] {0, 1, -1, Scenes.LEAST, Scenes.MOST}) {
            CHECK.noElement("thing " + i + " of none", x, () -> x.route(0, 2, 3, i));
            CHECK.noElement("thing " + i + " of none, without pairs", x, () -> x.route(0, 0, 3, i));
        }
        CHECK.noElement("a alone has no thing -1", x, () -> x.route(0, 0, 0, -1));
    }

    /** "The least THING of a's CLASS." */
    private static void leaderIsTheLeast() {
        Rows x = Scenes.withPairs(40, 6);
        CHECK.same("the first alone", x.leader(0, 0), 0);
        CHECK.same("the last alone", x.leader(0, 39), 39);
        x.set(0, 39, 20);
        CHECK.same("of two", x.leader(0, 39), 20);
        CHECK.same("of two, itself", x.leader(0, 20), 20);
        x.set(0, 30, 10);
        x.set(0, 30, 39);
        CHECK.same("of two classes that became one", x.leader(0, 39), 10);
        x.set(0, 0, 20);
        CHECK.same("the least of all", x.leader(0, 30), 0);
        x.drop(0, 0, 39);
        CHECK.same("the least is alone", x.leader(0, 0), 0);
        CHECK.same("the next one leads", x.leader(0, 30), 10);
        x.drop(0, 39, 10);
        CHECK.same("another is alone", x.leader(0, 39), 39);
        CHECK.same("the others keep theirs", x.leader(0, 30), 10);
        x.empty(0);
        CHECK.same("all are alone", x.leader(0, 30), 30);
    }

    /** "IllegalArgument: also a is of another KIND" */
    private static void leaderOfAnotherKind() {
        Rows x = Scenes.sixOfThreeKinds();
        for (int kind = NONE; kind <= 3; kind++) {
            x.relation(6, kind, kind);
        }
        for (int a = 0; a < 6; a++) {
            int thing = a;
            CHECK.same("any kind", x.leader(0, a), a);
            for (int kind = 0; kind <= 3; kind++) {
                int classes = kind + 1;
                if (a / 2 == kind) {
                    CHECK.same("of this kind", x.leader(classes, a), a);
                } else {
                    CHECK.badArgument(a + " is not of kind " + kind, x, () -> x.leader(classes, thing));
                }
            }
        }
    }

    /** "IllegalState: the RELATION is not of FORM 6." */
    private static void leaderNotOfFormSix() {
        Rows x = new Rows(2);
        for (int form = 0; form <= 5; form++) {
            x.relation(form, NONE, NONE);
        }
        x.relation(6, NONE, NONE);
        x.condition(0, 6, NONE);
        x.condition(2, 6, 6);
        for (int relation = 0; relation <= 8; relation++) {
            int r = relation;
            if (relation != 6) {
                CHECK.badState("relation " + relation, x, () -> x.leader(r, 1));
            }
        }
        CHECK.same("of form 6", x.leader(6, 1), 1);
    }

    /** leader: "IllegalArgument" */
    private static void leaderNoSuch() {
        Rows x = Scenes.withPairs(40, 6);
        for (int bad : Scenes.beyond(40)) {
            CHECK.badArgument("leader of " + bad, x, () -> x.leader(0, bad));
        }
        for (int bad : Scenes.beyond(1)) {
            CHECK.badArgument("leader in " + bad, x, () -> x.leader(bad, 0));
        }
    }

    /** "The first PAIR (by a, then by b) that one of two RELATIONS has and the other one has not" */
    private static void differByAThenByB() {
        Rows x = new Rows(40);
        x.relation(3, NONE, NONE);
        x.relation(3, NONE, NONE);
        int[][] sets = {{0, 39, 39}, {1, 39, 0}, {0, 2, 39}, {1, 2, 38}, {0, 1, 39}, {1, 0, 39}, {0, 0, 1}, {1, 0, 0}};
        for (int[] set : sets) {
            x.set(set[0], set[1], set[2]);
            CHECK.same("whichever has it", x.differ(0, 1), set[1] * 40 + set[2]);
            CHECK.same("the other way round", x.differ(1, 0), set[1] * 40 + set[2]);
        }
        x.set(1, 0, 1);
        x.set(0, 0, 0);
        CHECK.same("what both have does not count", x.differ(0, 1), 39);
    }

    /** "a times 40 and b": however many things there are. */
    private static void differTimesForty() {
        for (int things : new int[] {2, 7, 39, 40}) {
            int last = things - 1;
            Rows x = Scenes.withPairs(things, 3, last, last);
            x.relation(3, NONE, NONE);
            CHECK.same("the last pair of " + things, x.differ(0, 1), last * 40 + last);
            x.set(1, 1, 0);
            CHECK.same("(1, 0) of " + things, x.differ(0, 1), 40);
            x.set(1, 0, last);
            CHECK.same("the last of the first row of " + things, x.differ(0, 1), last);
            x.set(0, 0, 0);
            CHECK.same("the first pair of " + things, x.differ(0, 1), 0);
        }
        Rows one = Scenes.withPairs(1, 3, 0, 0);
        one.relation(3, NONE, NONE);
        CHECK.same("the only pair", one.differ(1, 0), 0);
    }

    /** "NONE." */
    private static void differNone() {
        Rows x = Scenes.withPairs(4, 0, 1, 3);
        x.relation(5, NONE, NONE);
        CHECK.same("with itself", x.differ(0, 0), NONE);
        x.set(1, 1, 3);
        CHECK.same("turned too", x.differ(0, 1), 3 * 40 + 1);
        x.set(0, 3, 1);
        CHECK.same("like pairs of unlike forms", x.differ(0, 1), NONE);
        x.condition(0, 1, NONE);
        CHECK.same("a relation by a condition", x.differ(0, 2), NONE);
        x.empty(0);
        x.empty(1);
        CHECK.same("empty ones", x.differ(0, 1), NONE);
        for (int bad : Scenes.beyond(3)) {
            CHECK.badArgument("r is " + bad, x, () -> x.differ(bad, 0));
            CHECK.badArgument("s is " + bad, x, () -> x.differ(0, bad));
            CHECK.badArgument("both are " + bad, x, () -> x.differ(bad, bad));
        }
    }

    /** "How often (a, b) was SET (also when it was there already)" */
    private static void tallyAlsoWhenItWasThere() {
        for (int form = 0; form <= 6; form++) {
            Rows x = Scenes.withPairs(40, form);
            CHECK.same("never, form " + form, x.tally(0, 39), 0);
            x.set(0, 0, 39);
            CHECK.same("once, form " + form, x.tally(0, 39), 1);
            x.set(0, 0, 39);
            CHECK.same("there already, form " + form, x.tally(0, 39), 2);
            CHECK.same("turned it was not set, form " + form, x.tally(39, 0), 0);
            CHECK.same("others, form " + form, x.tally(0, 38) + x.tally(1, 39) + x.tally(39, 39), 0);
        }
        Rows classes = Scenes.withPairs(3, 6, 0, 1, 1, 2, 0, 0);
        CHECK.same("in one class, but not set", classes.tally(0, 2), 0);
        CHECK.same("alone at first is not set", classes.tally(2, 2), 0);
        CHECK.same("set with itself", classes.tally(0, 0), 1);
    }

    /** "in all RELATIONS" */
    private static void tallyInAllRelations() {
        Rows x = new Rows(3);
        for (int r = 0; r < 12; r++) {
            x.relation(r % 7, NONE, NONE);
        }
        for (int r = 0; r < 12; r++) {
            x.set(r, 2, 1);
            CHECK.same("in so many", x.tally(2, 1), r + 1);
        }
    }

    /** "since the beginning, or clear()" */
    private static void tallySinceTheBeginning() {
        Rows x = Scenes.withPairs(3, 0, 0, 1, 0, 2, 0, 1);
        CHECK.same("pushed out between", x.tally(0, 1), 2);
        CHECK.same("pushed out", x.tally(0, 2), 1);
        x.drop(0, 0, 1);
        CHECK.same("dropped", x.tally(0, 1), 2);
        x.set(0, 0, 1);
        x.empty(0);
        CHECK.same("emptied", x.tally(0, 1), 3);
        CHECK.badArgument("refused", x, () -> x.set(1, 0, 1));
        CHECK.same("refused does not count", x.tally(0, 1), 3);
        x.clear();
        CHECK.same("cleared", x.tally(0, 1), 0);
        x.relation(3, NONE, NONE);
        x.set(0, 0, 1);
        CHECK.same("since clear", x.tally(0, 1), 1);
    }

    /** "ArrayIndexOutOfBounds: there is no such THING." */
    private static void tallyNoSuchThing() {
        for (int things : new int[] {1, 3, 40}) {
            Rows x = Scenes.withPairs(things, 3, 0, 0);
            CHECK.same("the last of " + things, x.tally(things - 1, things - 1), things == 1 ? 1 : 0);
            for (int bad : Scenes.beyond(things)) {
                CHECK.badIndex("first " + bad + " of " + things, x, () -> x.tally(bad, 0));
                CHECK.badIndex("second " + bad + " of " + things, x, () -> x.tally(0, bad));
                CHECK.badIndex("both " + bad + " of " + things, x, () -> x.tally(bad, bad));
            }
        }
        Rows x = new Rows(3);
        CHECK.badIndex("together they are no other pair", x, () -> x.tally(1, -1));
        CHECK.badIndex("nor from below", x, () -> x.tally(-1, 5));
    }

    /** "What = 0 how many THINGS, 1 RELATIONS, 2 PUSHED OUT by the last set(). IllegalArgument." */
    private static void ofWhat() {
        Rows x = Scenes.withPairs(40, 4, 0, 1, 2, 3, 0, 2);
        CHECK.same("things", x.of(0), 40);
        CHECK.same("relations", x.of(1), 1);
        CHECK.same("pushed out, counted once", x.of(2), 2);
        for (int bad : Scenes.beyond(3)) {
            CHECK.badArgument("what " + bad, x, () -> x.of(bad));
        }
        CHECK.same("as many relations as can be", Scenes.full().of(1), 12);
        CHECK.same("one thing", new Rows(1).of(0), 1);
    }

    /** "what = 0 its FORM, .. 1 its first KIND, .. 2 its second KIND" */
    private static void toldOfForms() {
        Rows x = new Rows(2);
        for (int form = 0; form <= 6; form++) {
            int first = form % 4;
            int second = form < 4 ? NONE : first;
            x.relation(form, first, second);
            CHECK.same("its form", x.told(form, 0), form);
            CHECK.same("its first kind", x.told(form, 1), first);
            CHECK.same("its second kind", x.told(form, 2), second);
        }
        for (int bad : Scenes.beyond(3)) {
            CHECK.badArgument("what " + bad, x, () -> x.told(0, bad));
        }
        for (int bad : Scenes.beyond(7)) {
            CHECK.badArgument("relation " + bad, x, () -> x.told(bad, 0));
        }
    }

    /** "or 10 and its CONDITION, .. or r, .. or s" */
    private static void toldOfConditions() {
        Rows x = new Rows(2);
        x.relation(3, 2, 1);
        x.relation(3, 3, 0);
        for (int condition = 0; condition <= 5; condition++) {
            int s = condition >= 2 && condition <= 4 ? 1 : NONE;
            int made = x.condition(condition, condition, s);
            CHECK.same("10 and its condition", x.told(made, 0), 10 + condition);
            CHECK.same("r", x.told(made, 1), condition);
            CHECK.same("s", x.told(made, 2), s);
            CHECK.badArgument("what 3", x, () -> x.told(made, 3));
        }
    }
}
