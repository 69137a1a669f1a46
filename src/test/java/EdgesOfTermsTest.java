/** The edges that 'What it is' and 'Terms' name: a method for each sentence, which stands above it. */
public final class EdgesOfTermsTest {
    private static final int NONE = Scenes.NONE;
    private static final Check CHECK = new Check();

    private EdgesOfTermsTest() {
    }

    public static void main(String[] args) {
        atMost512Calls();
        upToFortyThings();
        kindsOfThings();
        twelveRelations();
        twelveRelationsByConditions();
        forms();
        kindsOfRelations();
        pairsFit();
        pairsOfLikeKindsFit();
        oneToOne();
        oneToMany();
        manyToOne();
        manyToMany();
        twins();
        twinsNeverWithThemselves();
        mutual();
        classes();
        classesOfAKind();
        CHECK.end();
    }

    /** "An object is used for at most 512 calls after it has been made" */
    private static void atMost512Calls() {
        Rows x = new Rows(3);
        x.relation(2, NONE, NONE);
        for (int call = 2; call < 512; call++) {
            CHECK.same("set as call " + call, x.set(0, 0, call % 2), call == 2 ? 0 : 1);
        }
        CHECK.same("511 calls were made", x.calls(), 511);
        CHECK.same("tally as call 512", x.tally(0, 0), 255);
        Rows y = new Rows(40);
        for (int call = 1; call < 512; call++) {
            CHECK.same("clear as call " + call, y.clear(), 0);
        }
        CHECK.same("of as call 512", y.of(0), 40);
    }

    /** "Relations among up to forty things", "THINGS 0 .. n - 1" */
    private static void upToFortyThings() {
        for (int things : new int[] {1, 2, 39, 40}) {
            Rows x = Scenes.withPairs(things, 3, 0, 0, things - 1, things - 1);
            CHECK.yes("thing 0 of " + things, x.has(0, 0, 0));
            CHECK.yes("the last thing of " + things, x.has(0, things - 1, things - 1));
            CHECK.badArgument("thing -1 of " + things, x, () -> x.set(0, -1, 0));
            CHECK.badArgument("one thing beyond " + things, x, () -> x.set(0, 0, things));
        }
    }

    /** "KINDS 0 .. 3 (0 at first)" */
    private static void kindsOfThings() {
        Rows x = new Rows(40);
        for (int thing = 0; thing < 40; thing++) {
            CHECK.same("0 at first", x.kind(thing, thing % 4), 0);
        }
        for (int thing = 0; thing < 40; thing++) {
            CHECK.same("each has its own", x.kind(thing, 3), thing % 4);
        }
        CHECK.same("the greatest", x.kind(39, 0), 3);
        CHECK.same("the least", x.kind(39, 3), 0);
        CHECK.badArgument("the first beyond the greatest", x, () -> x.kind(0, 4));
        CHECK.badArgument("NONE is no kind of a thing", x, () -> x.kind(0, NONE));
    }

    /** "RELATIONS are numbered 0, 1, .. as they come, 12 at most" */
    private static void twelveRelations() {
        Rows x = new Rows(2);
        for (int number = 0; number < 12; number++) {
            int above = number;
            CHECK.badArgument("not there before it comes", x, () -> x.count(above));
            CHECK.badArgument("a refused one takes no number", x, () -> x.relation(7, NONE, NONE));
            CHECK.same("as they come", x.relation(number % 7, NONE, NONE), number);
            CHECK.same("its form", x.told(number, 0), number % 7);
        }
        CHECK.badState("a thirteenth", x, () -> x.relation(0, NONE, NONE));
        CHECK.badState("a thirteenth by a condition", x, () -> x.condition(0, 0, NONE));
        CHECK.same("twelve", x.of(1), 12);
        CHECK.same("the last one can be used", x.set(11, 0, 1), 0);
        CHECK.badArgument("there is no number 12", x, () -> x.count(12));
    }

    /** "RELATIONS are numbered 0, 1, .. as they come, 12 at most": those by conditions are numbered with the others. */
    private static void twelveRelationsByConditions() {
        Rows x = new Rows(2);
        x.relation(3, NONE, NONE);
        for (int number = 1; number < 11; number++) {
            CHECK.same("as they come", x.condition(1, number - 1, NONE), number);
        }
        CHECK.same("one of a form between", x.relation(5, NONE, NONE), 11);
        CHECK.badState("a thirteenth", x, () -> x.condition(2, 0, 11));
        CHECK.badState("a thirteenth of a form", x, () -> x.relation(6, 0, 0));
        CHECK.same("not, ten times over", x.differ(0, 10), NONE);
        x.set(0, 1, 1);
        CHECK.yes("not, ten times over, after a change", x.has(10, 1, 1));
        CHECK.no("not, nine times over, after a change", x.has(9, 1, 1));
    }

    /** "One of a FORM 0 .. 6" */
    private static void forms() {
        Rows x = new Rows(2);
        CHECK.badArgument("the first below", x, () -> x.relation(-1, NONE, NONE));
        CHECK.same("the least", x.relation(0, NONE, NONE), 0);
        CHECK.same("the greatest", x.relation(6, NONE, NONE), 1);
        CHECK.badArgument("the first above", x, () -> x.relation(7, NONE, NONE));
        CHECK.badArgument("no form is told like a condition", x, () -> x.relation(10, NONE, NONE));
    }

    /** "has two KINDS, each 0 .. 3 or NONE (any)", "FORMS 4, 5, 6 have like KINDS" */
    private static void kindsOfRelations() {
        for (int form = 0; form <= 6; form++) {
            for (int first = -2; first <= 4; first++) {
                for (int second = -2; second <= 4; second++) {
                    kindsOfOneRelation(form, first, second);
                }
            }
        }
    }

    private static void kindsOfOneRelation(int form, int first, int second) {
        String what = "relation(" + form + ", " + first + ", " + second + ")";
        boolean kinds = first >= NONE && first <= 3 && second >= NONE && second <= 3;
        Rows x = new Rows(2);
        if (kinds && (form < 4 || first == second)) {
            CHECK.same(what, x.relation(form, first, second), 0);
            CHECK.same(what + ", its first kind", x.told(0, 1), first);
            CHECK.same(what + ", its second kind", x.told(0, 2), second);
        } else {
            CHECK.badArgument(what, x, () -> x.relation(form, first, second));
        }
    }

    /** "a PAIR (a, b) FITS, if a is of the first one, b of the second" */
    private static void pairsFit() {
        for (int form = 0; form <= 3; form++) {
            for (int first = NONE; first <= 3; first++) {
                for (int second = NONE; second <= 3; second++) {
                    pairsFitOneRelation(form, first, second);
                }
            }
        }
    }

    private static void pairsFitOneRelation(int form, int first, int second) {
        Rows x = new Rows(4);
        for (int thing = 0; thing < 4; thing++) {
            x.kind(thing, thing);
        }
        x.relation(form, first, second);
        for (int a = 0; a < 4; a++) {
            for (int b = 0; b < 4; b++) {
                boolean fits = (first == NONE || a == first) && (second == NONE || b == second);
                fitsOrNot(x, a, b, fits, "form " + form + ", kinds " + first + " " + second);
            }
        }
    }

    private static void fitsOrNot(Rows x, int a, int b, boolean fits, String where) {
        String what = where + ": (" + a + ", " + b + ")";
        if (fits) {
            x.set(0, a, b);
            CHECK.yes(what + " was set", x.has(0, a, b));
        } else {
            CHECK.sameText(what + " is not set", Check.outcome(() -> x.set(0, a, b)), "throws.IllegalArgumentException");
            CHECK.sameText(what + " does not go", Check.outcome(() -> Scenes.number(x.drop(0, a, b))),
                    "throws.IllegalArgumentException");
            CHECK.no(what + " is none", x.has(0, a, b));
        }
    }

    /** The same of FORMS 4, 5, 6, with two things of each kind. */
    private static void pairsOfLikeKindsFit() {
        for (int form = 4; form <= 6; form++) {
            for (int kind = NONE; kind <= 3; kind++) {
                Rows x = new Rows(8);
                for (int thing = 0; thing < 8; thing++) {
                    x.kind(thing, thing / 2);
                }
                x.relation(form, kind, kind);
                for (int pair = 0; pair < 64; pair++) {
                    int a = pair / 8;
                    int b = pair % 8;
                    boolean fits = kind == NONE || a / 2 == kind && b / 2 == kind;
                    fitsOrNot(x, a, b, fits && (form != 4 || a != b), "form " + form + ", kind " + kind);
                }
            }
        }
    }

    /** "0 ONE TO ONE: no THING is twice first, none twice second." */
    private static void oneToOne() {
        Rows x = new Rows(40);
        x.relation(0, NONE, NONE);
        for (int a = 0; a < 40; a++) {
            CHECK.same("once first, once second", x.set(0, a, 39 - a), 0);
        }
        CHECK.same("as many as can be", x.count(0), 40);
        CHECK.same("none twice", x.set(0, 0, 0), 2);
        CHECK.pushed("first, then second", x, "0-39 39-0");
        CHECK.same("one less", x.count(0), 39);
        CHECK.same("those that are free now", x.set(0, 39, 39), 0);
        Rows one = Scenes.withPairs(1, 0, 0, 0);
        CHECK.same("a thing with itself", one.count(0), 1);
        CHECK.same("set again", one.set(0, 0, 0), 0);
    }

    /** "1 ONE TO MANY: none is twice second." */
    private static void oneToMany() {
        Rows x = new Rows(40);
        x.relation(1, NONE, NONE);
        for (int b = 0; b < 40; b++) {
            CHECK.same("often first", x.set(0, 5, b), 0);
        }
        CHECK.same("all are second", x.count(0), 40);
        CHECK.same("the last one with the first", x.next(0, 5, 39), 39);
        for (int b = 0; b < 40; b++) {
            CHECK.same("none twice second", x.set(0, b, b), b == 5 ? 0 : 1);
        }
        CHECK.pushed("the last", x, "5-39");
        CHECK.same("no more than things", x.count(0), 40);
    }

    /** "2 MANY TO ONE: none is twice first." */
    private static void manyToOne() {
        Rows x = new Rows(40);
        x.relation(2, NONE, NONE);
        for (int a = 0; a < 40; a++) {
            CHECK.same("often second", x.set(0, a, 5), 0);
        }
        CHECK.same("all are first", x.count(0), 40);
        CHECK.same("the last one with it", x.back(0, 5, 39), 39);
        for (int a = 0; a < 40; a++) {
            CHECK.same("none twice first", x.set(0, a, a), a == 5 ? 0 : 1);
        }
        CHECK.pushed("the last", x, "39-5");
        CHECK.same("no more than things", x.count(0), 40);
    }

    /** "3 MANY TO MANY." */
    private static void manyToMany() {
        Rows x = new Rows(22);
        x.relation(3, NONE, NONE);
        int pushed = 0;
        for (int pair = 0; pair < 22 * 22; pair++) {
            pushed += x.set(0, pair / 22, pair % 22);
        }
        CHECK.same("none is pushed out", pushed, 0);
        CHECK.same("all there are", x.count(0), 484);
    }

    /** "4 TWINS: with (a, b) also (b, a); no THING is twice first" */
    private static void twins() {
        Rows x = new Rows(40);
        x.relation(4, NONE, NONE);
        for (int a = 0; a < 20; a++) {
            CHECK.same("a free couple", x.set(0, a, a + 20), 0);
            CHECK.yes("also turned", x.has(0, a + 20, a));
        }
        CHECK.same("as many as can be", x.count(0), 40);
        CHECK.same("two couples part", x.set(0, 39, 0), 2);
        CHECK.pushed("two are told, not four", x, "39-19 0-20");
        CHECK.same("four pairs went, two came", x.count(0), 38);
        CHECK.same("those left are free", x.set(0, 19, 20), 0);
        CHECK.same("as many as can be again", x.count(0), 40);
        Rows three = Scenes.withPairs(3, 4, 0, 1, 1, 2, 2, 0);
        CHECK.pairs("of three one is left", three, 0, " 0-2 2-0");
    }

    /** "none is with itself", "a THING with itself in FORM 4" */
    private static void twinsNeverWithThemselves() {
        Rows x = Scenes.withPairs(40, 4, 0, 39);
        for (int a : new int[] {0, 1, 39}) {
            CHECK.badArgument("set with itself", x, () -> x.set(0, a, a));
            CHECK.badArgument("drop with itself", x, () -> Scenes.number(x.drop(0, a, a)));
            CHECK.no("has, which is no wrong question", x.has(0, a, a));
        }
        Rows one = new Rows(1);
        one.relation(4, NONE, NONE);
        CHECK.badArgument("the only thing", one, () -> one.set(0, 0, 0));
        for (int form : new int[] {0, 1, 2, 3, 5, 6}) {
            Rows other = Scenes.withPairs(2, form, 1, 1);
            CHECK.yes("with itself in form " + form, other.has(0, 1, 1));
        }
    }

    /** "5 MUTUAL: with (a, b) also (b, a)." */
    private static void mutual() {
        Rows x = new Rows(20);
        x.relation(5, NONE, NONE);
        int pushed = 0;
        for (int a = 0; a < 20; a++) {
            for (int b = a; b < 20; b++) {
                pushed += x.set(0, b, a);
            }
        }
        CHECK.same("none is pushed out", pushed, 0);
        CHECK.same("all there are", x.count(0), 400);
        CHECK.yes("turned", x.has(0, 0, 19));
        CHECK.same("a pair with itself is one pair", Scenes.withPairs(2, 5, 1, 1).count(0), 1);
        CHECK.same("another is two", Scenes.withPairs(2, 5, 1, 0).count(0), 2);
    }

    /** "6 CLASSES: .. each alone at first; (a, b) is a PAIR, if both are in one CLASS" */
    private static void classes() {
        Rows x = new Rows(40);
        x.relation(6, NONE, NONE);
        CHECK.same("each alone at first", x.count(0), 40);
        CHECK.yes("with itself", x.has(0, 39, 39));
        CHECK.no("with no other", x.has(0, 39, 38));
        for (int a = 0; a < 39; a++) {
            CHECK.same("none is pushed out", x.set(0, a, a + 1), 0);
        }
        CHECK.same("all in one class", x.count(0), 1600);
        CHECK.yes("the first with the last", x.has(0, 0, 39) && x.has(0, 39, 0));
        Rows one = new Rows(1);
        one.relation(6, NONE, NONE);
        CHECK.pairs("one thing alone", one, 0, " 0-0");
    }

    /** "all THINGS of its KIND are in CLASSES" */
    private static void classesOfAKind() {
        Rows x = Scenes.sixOfThreeKinds();
        for (int kind = 0; kind <= 3; kind++) {
            x.relation(6, kind, kind);
        }
        CHECK.pairs("of kind 0", x, 0, " 0-0 1-1");
        CHECK.pairs("of kind 2", x, 2, " 4-4 5-5");
        CHECK.pairs("a kind that no thing has", x, 3, "");
        CHECK.same("nothing to empty", x.empty(3), 0);
        x.set(0, 1, 0);
        CHECK.pairs("one class of kind 0", x, 0, " 0-0 0-1 1-0 1-1");
        CHECK.pairs("other relations keep theirs", x, 1, " 2-2 3-3");
    }
}
