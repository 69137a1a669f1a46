/** The edges that promises 1 to 9 name: a method for each sentence, which stands above it. */
public final class EdgesOfMakingTest {
    private static final int NONE = Scenes.NONE;
    private static final Check CHECK = new Check();

    private EdgesOfMakingTest() {
    }

    public static void main(String[] args) {
        things();
        nearestNumber();
        noRelations();
        nothingPushedOut();
        clearTellsHowMany();
        clearMakesAllAsAtFirst();
        clearForgetsWhatWasWorkedOut();
        clearLeavesThings();
        kindTellsWhatItWas();
        kindWithRelations();
        relationNumber();
        conditionNumber();
        conditionLeastAndGreatest();
        conditionOnItself();
        setTellsHowMany();
        setForgetsThoseBefore();
        dropTellsWhether();
        dropWithItself();
        dropLeavesTheRest();
        emptyAllThatCan();
        emptyTellsHowManyLess();
        emptyLeavesTheRest();
        emptyNoSuch();
        pushedWhich();
        pushedByTheLastSet();
        CHECK.end();
    }

    private static void newObject(int asked, int due) {
        Rows x = new Rows(asked);
        CHECK.same("things of " + asked, x.of(0), due);
        CHECK.same("the last of " + asked, x.tally(due - 1, due - 1), 0);
        CHECK.badIndex("one beyond the last of " + asked, x, () -> x.tally(0, due));
    }

    /** "So many THINGS, 1 .. 40" */
    private static void things() {
        for (int n = 1; n <= 40; n++) {
            newObject(n, n);
        }
    }

    /** "(a number that is none counts as the nearest that is)" */
    private static void nearestNumber() {
        newObject(0, 1);
        newObject(-1, 1);
        newObject(-40, 1);
        newObject(Scenes.LEAST, 1);
        newObject(41, 40);
        newObject(64, 40);
        newObject(Scenes.MOST, 40);
    }

    /** "no RELATIONS" */
    private static void noRelations() {
        Rows x = new Rows(2);
        CHECK.same("how many", x.of(1), 0);
        CHECK.badArgument("relation 0", x, () -> x.count(0));
        CHECK.same("the first", x.relation(6, 0, 0), 0);
    }

    /** "nothing PUSHED OUT" */
    private static void nothingPushedOut() {
        Rows x = new Rows(2);
        CHECK.same("how many", x.of(2), 0);
        CHECK.noElement("the first", x, () -> x.pushed(0, 0));
        CHECK.noElement("the second of the first", x, () -> x.pushed(0, 1));
    }

    /** "how many RELATIONS there were" */
    private static void clearTellsHowMany() {
        Rows x = new Rows(2);
        CHECK.same("none", x.clear(), 0);
        x.relation(0, NONE, NONE);
        CHECK.same("one", x.clear(), 1);
        CHECK.same("none again", x.clear(), 0);
        CHECK.same("as many as can be", Scenes.full().clear(), 12);
    }

    /** "All as at first" */
    private static void clearMakesAllAsAtFirst() {
        Rows x = Scenes.sixOfThreeKinds();
        x.relation(0, NONE, NONE);
        x.relation(6, 1, 1);
        x.condition(5, 0, NONE);
        Scenes.setAll(x, 0, 0, 1, 2, 3, 0, 3);
        x.set(1, 2, 3);
        x.set(0, 2, 3);
        x.clear();
        CHECK.sameText("as a new one", Snapshot.all(x), Snapshot.all(new Rows(6)));
        Rows full = Scenes.full();
        full.clear();
        CHECK.sameText("a full one as a new one", Snapshot.all(full), Snapshot.all(new Rows(4)));
        for (int made = 0; made < 12; made++) {
            CHECK.same("twelve again", full.relation(0, NONE, NONE), made);
        }
    }

    /** The same: relations by conditions begin anew, whatever was asked of the old ones. */
    private static void clearForgetsWhatWasWorkedOut() {
        Rows x = Scenes.withPairs(3, 3, 0, 1);
        x.condition(0, 0, NONE);
        x.condition(1, 1, NONE);
        CHECK.same("asked before", x.count(2), 8);
        x.clear();
        x.relation(3, NONE, NONE);
        CHECK.pairs("a new one has none", x, 0, "");
        x.set(0, 2, 0);
        x.condition(0, 0, NONE);
        x.condition(3, 0, 1);
        CHECK.yes("turned anew", x.has(1, 0, 2));
        CHECK.pairs("either anew", x, 2, " 0-2 2-0");
        Rows y = Scenes.withPairs(2, 3, 0, 1);
        y.condition(1, 0, NONE);
        CHECK.same("asked before", y.count(1), 3);
        y.clear();
        y.relation(3, NONE, NONE);
        y.condition(1, 0, NONE);
        CHECK.same("not, anew", y.count(1), 4);
    }

    /** "but with as many THINGS" */
    private static void clearLeavesThings() {
        for (int things : new int[] {1, 7, 40}) {
            Rows x = new Rows(things);
            x.clear();
            CHECK.same("of " + things, x.of(0), things);
            CHECK.badArgument("one beyond " + things, x, () -> x.kind(things, 0));
        }
    }

    /** "The KIND of a THING: what it was." */
    private static void kindTellsWhatItWas() {
        Rows x = new Rows(40);
        for (int kind = 3; kind >= 0; kind--) {
            CHECK.same("was " + kind, x.kind(39, kind), kind == 3 ? 0 : kind + 1);
        }
        CHECK.same("as it is", x.kind(39, 0), 0);
        x.kind(0, 2);
        CHECK.same("the next one keeps its own", x.kind(1, 0), 0);
        CHECK.same("the first has its own", x.kind(0, 0), 2);
    }

    /** "IllegalState: there are RELATIONS already." */
    private static void kindWithRelations() {
        Rows x = new Rows(2);
        x.kind(1, 3);
        x.relation(3, NONE, NONE);
        CHECK.badState("another kind", x, () -> x.kind(1, 2));
        CHECK.badState("the same kind", x, () -> x.kind(1, 3));
        x.clear();
        CHECK.same("no more, after clear", x.kind(1, 1), 0);
        Rows full = Scenes.full();
        CHECK.badState("with twelve", full, () -> full.kind(0, 1));
    }

    /** "A RELATION of a FORM: its number.", "IllegalState: there are 12." */
    private static void relationNumber() {
        Rows x = new Rows(1);
        for (int made = 0; made < 12; made++) {
            CHECK.same("its number", x.relation(3, NONE, NONE), made);
            CHECK.same("so many", x.of(1), made + 1);
        }
        for (int form = 0; form <= 6; form++) {
            int f = form;
            CHECK.badState("there are 12, form " + form, x, () -> x.relation(f, NONE, NONE));
        }
    }

    /** "A RELATION by a CONDITION on r: its number.", "IllegalState: there are 12." */
    private static void conditionNumber() {
        Rows x = new Rows(1);
        x.relation(3, NONE, NONE);
        for (int made = 1; made < 12; made++) {
            CHECK.same("its number", x.condition(2, 0, made - 1), made);
            CHECK.same("so many", x.of(1), made + 1);
        }
        for (int condition = 0; condition <= 5; condition++) {
            int c = condition;
            int s = condition >= 2 && condition <= 4 ? 11 : NONE;
            CHECK.badState("there are 12, condition " + condition, x, () -> x.condition(c, 0, s));
        }
    }

    /** "0 TURNED .. 5 FAR", "(and s, NONE where one is enough)" */
    private static void conditionLeastAndGreatest() {
        Rows x = Scenes.withPairs(2, 3);
        CHECK.badArgument("the first below", x, () -> x.condition(-1, 0, NONE));
        CHECK.badArgument("the first below, with two", x, () -> x.condition(-1, 0, 0));
        CHECK.badArgument("the first above", x, () -> x.condition(6, 0, NONE));
        CHECK.badArgument("the first above, with two", x, () -> x.condition(6, 0, 0));
        CHECK.badArgument("as told() tells it", x, () -> x.condition(10, 0, NONE));
        CHECK.same("the least", x.condition(0, 0, NONE), 1);
        CHECK.same("the greatest", x.condition(5, 0, NONE), 2);
        for (int condition = 2; condition <= 4; condition++) {
            int c = condition;
            CHECK.badArgument("two are needed", x, () -> x.condition(c, 0, NONE));
            CHECK.badArgument("r is needed", x, () -> x.condition(c, NONE, 0));
        }
        for (int condition : new int[] {0, 1, 5}) {
            CHECK.badArgument("r is needed", x, () -> x.condition(condition, NONE, NONE));
            CHECK.badArgument("one is enough", x, () -> x.condition(condition, 0, 0));
        }
    }

    /** "there is no such .. RELATION": none before it comes, so none is on itself. */
    private static void conditionOnItself() {
        Rows x = new Rows(2);
        CHECK.badArgument("with no relations", x, () -> x.condition(1, 0, NONE));
        x.relation(3, NONE, NONE);
        CHECK.badArgument("r is itself", x, () -> x.condition(1, 1, NONE));
        CHECK.badArgument("s is itself", x, () -> x.condition(3, 0, 1));
        CHECK.same("r and s are the last one", x.condition(3, 0, 0), 1);
        CHECK.same("the last one by a condition", x.condition(3, 1, 1), 2);
    }

    /** "A PAIR is SET: how many were PUSHED OUT" */
    private static void setTellsHowMany() {
        int[] most = {2, 1, 1, 0, 2, 0, 0};
        for (int form = 0; form <= 6; form++) {
            Rows x = Scenes.withPairs(5, form);
            CHECK.same("none in form " + form, x.set(0, 0, 1), 0);
            CHECK.same("none of this one in form " + form, x.set(0, 2, 3), 0);
            CHECK.same("as many as can be in form " + form, x.set(0, 0, 3), most[form]);
            CHECK.same("of tells the same in form " + form, x.of(2), most[form]);
            CHECK.yes("it is set in form " + form, x.has(0, 0, 3));
        }
    }

    /** "(those that were before are told no more)" */
    private static void setForgetsThoseBefore() {
        Rows x = Scenes.withPairs(5, 0, 0, 1, 2, 3, 0, 3);
        CHECK.pushed("two", x, "0-1 2-3");
        x.set(0, 0, 4);
        CHECK.pushed("one", x, "0-3");
        x.set(0, 0, 4);
        CHECK.pushed("none, as it was there", x, "");
        Scenes.setAll(x, 0, 1, 4);
        CHECK.pushed("one again", x, "0-4");
        x.set(0, 2, 2);
        CHECK.pushed("none, as none was in its way", x, "");
        x.set(0, 2, 4);
        CHECK.pushed("two again", x, "2-2 1-4");
        x.relation(3, NONE, NONE);
        x.set(1, 0, 0);
        CHECK.pushed("none, by a set in another relation", x, "");
    }

    /** "A PAIR goes: whether it was there" */
    private static void dropTellsWhether() {
        for (int form = 0; form <= 6; form++) {
            Rows x = Scenes.withPairs(4, form);
            CHECK.no("not there in form " + form, x.drop(0, 0, 3));
            x.set(0, 0, 3);
            CHECK.no("another one in form " + form, x.drop(0, 0, 2));
            CHECK.yes("there in form " + form, x.drop(0, 0, 3));
            CHECK.no("gone in form " + form, x.has(0, 0, 3));
            CHECK.no("no more in form " + form, x.drop(0, 0, 3));
        }
    }

    /** "(a PAIR of a CLASS with itself does not go: false)" */
    private static void dropWithItself() {
        Rows x = Scenes.withPairs(3, 6, 0, 1);
        for (int a = 0; a < 3; a++) {
            CHECK.no("with itself", x.drop(0, a, a));
            CHECK.yes("it stays", x.has(0, a, a));
        }
        CHECK.same("all stay", x.count(0), 5);
        for (int form : new int[] {0, 1, 2, 3, 5}) {
            Rows other = Scenes.withPairs(3, form, 1, 1);
            CHECK.yes("it goes in form " + form, other.drop(0, 1, 1));
            CHECK.same("none is left in form " + form, other.count(0), 0);
        }
    }

    /** What drop() does not speak of stays: what was pushed out, tallies, other relations. */
    private static void dropLeavesTheRest() {
        Rows x = Scenes.withPairs(3, 0, 0, 1, 0, 2);
        x.relation(3, NONE, NONE);
        CHECK.yes("it goes", x.drop(0, 0, 2));
        CHECK.pushed("by the last set", x, "0-1");
        CHECK.same("tally", x.tally(0, 2), 1);
        CHECK.no("it is gone", x.drop(0, 0, 2));
        CHECK.pushed("by the last set, still", x, "0-1");
        x.set(1, 0, 2);
        CHECK.no("not there", x.drop(0, 0, 2));
        CHECK.yes("in the other relation", x.has(1, 0, 2));
    }

    /** "All PAIRS that can go do" */
    private static void emptyAllThatCan() {
        for (int form = 0; form <= 6; form++) {
            Rows x = new Rows(40);
            x.relation(form, NONE, NONE);
            CHECK.same("of none, form " + form, x.empty(0), 0);
            for (int a = 0; a < 39; a++) {
                x.set(0, a, a + 1);
            }
            int before = x.count(0);
            int left = form == 6 ? 40 : 0;
            CHECK.same("all that can, form " + form, x.empty(0), before - left);
            CHECK.same("left, form " + form, x.count(0), left);
            CHECK.no("the first with the second, form " + form, x.has(0, 0, 1));
            CHECK.same("with itself, form " + form, Scenes.number(x.has(0, 39, 39)), form == 6 ? 1 : 0);
            CHECK.same("once more, form " + form, x.empty(0), 0);
        }
    }

    /** "how many PAIRS are less" */
    private static void emptyTellsHowManyLess() {
        CHECK.same("twins, both ways", Scenes.withPairs(4, 4, 0, 1).empty(0), 2);
        CHECK.same("mutual, both ways", Scenes.withPairs(4, 5, 0, 1).empty(0), 2);
        CHECK.same("mutual, with itself", Scenes.withPairs(4, 5, 1, 1).empty(0), 1);
        CHECK.same("classes, none", Scenes.withPairs(4, 6).empty(0), 0);
        CHECK.same("a class of two", Scenes.withPairs(4, 6, 3, 0).empty(0), 2);
        CHECK.same("one class of forty", Scenes.chain(40, 6).empty(0), 1560);
        Rows kinds = Scenes.sixOfThreeKinds();
        kinds.relation(6, 1, 1);
        kinds.set(0, 3, 2);
        CHECK.same("a class of a kind", kinds.empty(0), 2);
        CHECK.pairs("those of the kind are left", kinds, 0, " 2-2 3-3");
    }

    /** What empty() does not speak of stays: what was pushed out, tallies, other relations. */
    private static void emptyLeavesTheRest() {
        Rows x = Scenes.withPairs(3, 0, 0, 1, 0, 2);
        x.relation(0, NONE, NONE);
        CHECK.same("the other one", x.empty(1), 0);
        CHECK.yes("this one stays", x.has(0, 0, 2));
        CHECK.same("this one", x.empty(0), 1);
        CHECK.pushed("by the last set", x, "0-1");
        CHECK.same("tally", x.tally(0, 2), 1);
        CHECK.same("its form", x.told(0, 0), 0);
        CHECK.same("so many relations", x.of(1), 2);
        CHECK.same("it can be set again", x.set(0, 0, 2), 0);
    }

    /** empty: "IllegalArgument; IllegalState: likewise." */
    private static void emptyNoSuch() {
        Rows x = Scenes.withPairs(2, 5, 0, 1);
        x.condition(0, 0, NONE);
        for (int bad : Scenes.beyond(2)) {
            CHECK.badArgument("empty " + bad, x, () -> x.empty(bad));
        }
        CHECK.badState("empty by a condition", x, () -> x.empty(1));
    }

    /** "the first THING (which = 0), the second (1)" */
    private static void pushedWhich() {
        Rows x = Scenes.withPairs(40, 0, 39, 0, 1, 38, 39, 38);
        CHECK.same("first of the first", x.pushed(0, 0), 39);
        CHECK.same("second of the first", x.pushed(0, 1), 0);
        CHECK.same("first of the last", x.pushed(1, 0), 1);
        CHECK.same("second of the last", x.pushed(1, 1), 38);
        for (int bad : Scenes.beyond(2)) {
            CHECK.badArgument("which " + bad, x, () -> x.pushed(0, bad));
            CHECK.noElement("pair " + bad, x, () -> x.pushed(bad, 0));
            CHECK.noElement("pair " + bad + ", its second", x, () -> x.pushed(bad, 1));
        }
    }

    /** "that the last set() PUSHED OUT": neither a refused set nor another call takes its place. */
    private static void pushedByTheLastSet() {
        Rows x = Scenes.withPairs(4, 0, 0, 1, 0, 2);
        CHECK.badArgument("a refused set", x, () -> x.set(0, 0, 4));
        x.relation(6, NONE, NONE);
        x.condition(1, 0, NONE);
        CHECK.badState("a set by a condition", x, () -> x.set(2, 0, 0));
        x.drop(0, 0, 2);
        x.empty(0);
        x.leader(1, 3);
        CHECK.pushed("still told", x, "0-1");
        x.clear();
        CHECK.pushed("no more after clear", x, "");
    }
}
