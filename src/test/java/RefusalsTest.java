import java.util.ArrayList;
import java.util.List;
import java.util.TreeSet;

/**
 * "Of several the first one in this order. A call that throws changes nothing.": by hand where two are due at once, then
 * every call with every mix of numbers at the edges, in many states, beside the model.
 */
public final class RefusalsTest {
    private static final int NONE = Scenes.NONE;
    private static final Check CHECK = new Check();

    private RefusalsTest() {
    }

    public static void main(String[] args) {
        argumentBeforeStateOfKind();
        argumentBeforeStateOfRelation();
        argumentBeforeStateOfCondition();
        argumentBeforeStateOfPairs();
        argumentBeforeStateOfLeader();
        argumentBeforeElement();
        refusedLeavesRelationsByConditions();
        for (Story story : stories()) {
            everyMix(story);
        }
        CHECK.end();
    }

    private static void argumentBeforeStateOfKind() {
        Rows x = Scenes.full();
        for (int bad : Scenes.beyond(4)) {
            CHECK.badArgument("no such thing, and relations", x, () -> x.kind(bad, 0));
            CHECK.badArgument("no such kind, and relations", x, () -> x.kind(0, bad));
        }
        CHECK.badState("relations alone", x, () -> x.kind(0, 0));
    }

    private static void argumentBeforeStateOfRelation() {
        Rows x = Scenes.full();
        for (int bad : Scenes.beyond(7)) {
            CHECK.badArgument("no such form, and twelve", x, () -> x.relation(bad, NONE, NONE));
        }
        for (int bad : new int[] {-2, 4, Scenes.LEAST, Scenes.MOST}) {
            CHECK.badArgument("no such first kind, and twelve", x, () -> x.relation(3, bad, NONE));
            CHECK.badArgument("no such second kind, and twelve", x, () -> x.relation(3, NONE, bad));
        }
        for (int form = 4; form <= 6; form++) {
            int f = form;
            CHECK.badArgument("unlike kinds, and twelve", x, () -> x.relation(f, 0, NONE));
        }
        CHECK.badState("twelve alone", x, () -> x.relation(3, 0, NONE));
    }

    private static void argumentBeforeStateOfCondition() {
        Rows x = Scenes.full();
        for (int bad : Scenes.beyond(6)) {
            CHECK.badArgument("no such condition, and twelve", x, () -> x.condition(bad, 0, 0));
        }
        for (int bad : Scenes.beyond(12)) {
            CHECK.badArgument("no such r, and twelve", x, () -> x.condition(1, bad, NONE));
            CHECK.badArgument("no such s, and twelve", x, () -> x.condition(2, 0, bad));
        }
        CHECK.badState("twelve alone", x, () -> x.condition(4, 0, 11));
    }

    private static void argumentBeforeStateOfPairs() {
        Rows x = Scenes.full();
        for (int bad : Scenes.beyond(4)) {
            CHECK.badArgument("set from no such thing, by a condition", x, () -> x.set(11, bad, 0));
            CHECK.badArgument("set to no such thing, by a condition", x, () -> x.set(11, 0, bad));
            CHECK.badArgument("drop from no such thing, by a condition", x, () -> Scenes.number(x.drop(11, bad, 0)));
            CHECK.badArgument("drop to no such thing, by a condition", x, () -> Scenes.number(x.drop(11, 0, bad)));
        }
        for (int bad : Scenes.beyond(12)) {
            CHECK.badArgument("set in no such relation", x, () -> x.set(bad, 0, 1));
            CHECK.badArgument("drop in no such relation", x, () -> Scenes.number(x.drop(bad, 0, 1)));
            CHECK.badArgument("empty no such relation", x, () -> x.empty(bad));
        }
        CHECK.badState("set by a condition alone", x, () -> x.set(11, 0, 0));
        CHECK.badState("drop by a condition alone", x, () -> Scenes.number(x.drop(11, 0, 0)));
        CHECK.badState("empty by a condition alone", x, () -> x.empty(11));
    }

    private static void argumentBeforeStateOfLeader() {
        Rows x = Scenes.full();
        for (int bad : Scenes.beyond(4)) {
            CHECK.badArgument("no such thing, not of form 6", x, () -> x.leader(3, bad));
            CHECK.badArgument("no such thing, by a condition", x, () -> x.leader(11, bad));
            CHECK.badArgument("no such thing, of form 6", x, () -> x.leader(6, bad));
        }
        for (int bad : Scenes.beyond(12)) {
            CHECK.badArgument("no such relation", x, () -> x.leader(bad, 0));
        }
        CHECK.badState("not of form 6 alone", x, () -> x.leader(3, 0));
    }

    private static void argumentBeforeElement() {
        Rows x = Scenes.withPairs(3, 3, 0, 1);
        for (int bad : Scenes.beyond(2)) {
            CHECK.badArgument("no such which, nothing pushed", x, () -> x.pushed(0, bad));
            CHECK.badArgument("no such which, no such i", x, () -> x.pushed(-1, bad));
        }
        for (int bad : Scenes.beyond(3)) {
            CHECK.badArgument("next in no such relation, no such i", x, () -> x.next(bad, 0, 9));
            CHECK.badArgument("next of no such thing, no such i", x, () -> x.next(0, bad, -1));
            CHECK.badArgument("back in no such relation, no such i", x, () -> x.back(bad, 0, 9));
            CHECK.badArgument("back of no such thing, no such i", x, () -> x.back(0, bad, -1));
            CHECK.badArgument("route in no such relation, no such i", x, () -> x.route(bad, 0, 1, 9));
            CHECK.badArgument("route from no such thing, no such i", x, () -> x.route(0, bad, 1, -1));
            CHECK.badArgument("route to no such thing, no such i", x, () -> x.route(0, 0, bad, 9));
        }
        CHECK.noElement("no such i alone, pushed", x, () -> x.pushed(0, 0));
        CHECK.noElement("no such i alone, next", x, () -> x.next(0, 0, 9));
        CHECK.noElement("no such i alone, back", x, () -> x.back(0, 0, 9));
        CHECK.noElement("no such i alone, route", x, () -> x.route(0, 0, 1, 9));
    }

    /** A refused call just after a change must not hide the change from the relations by conditions. */
    private static void refusedLeavesRelationsByConditions() {
        Rows x = Scenes.withPairs(3, 3);
        x.condition(0, 0, NONE);
        x.condition(5, 1, NONE);
        CHECK.same("none yet", x.count(2), 0);
        x.set(0, 0, 1);
        CHECK.sameText("refused", Check.outcome(() -> x.next(1, 1, 7)), "throws.NoSuchElementException");
        CHECK.sameText("refused", Check.outcome(() -> x.set(2, 1, 1)), "throws.IllegalStateException");
        CHECK.sameText("refused", Check.outcome(() -> x.route(2, 0, 1, 0)), "throws.NoSuchElementException");
        CHECK.yes("turned", x.has(1, 1, 0));
        CHECK.same("far", x.count(2), 1);
    }

    /** A state, told as calls for the class and for the model alike. */
    private static final class Story {
        private final String name;
        private final int things;
        private final List<int[]> steps = new ArrayList<>();

        Story(String name, int things) {
            this.name = name;
            this.things = things;
        }

        Story then(String call, int... numbers) {
            int[] step = {Calls.numberOf(call), 0, 0, 0, 0};
            System.arraycopy(numbers, 0, step, 1, numbers.length);
            steps.add(step);
            return this;
        }

        Rows rows() {
            Rows x = new Rows(things);
            for (int[] s : steps) {
                Calls.on(x, Calls.NAMES[s[0]], s[1], s[2], s[3], s[4]);
            }
            return x;
        }

        Model model() {
            Model x = new Model(things);
            for (int[] s : steps) {
                Calls.on(x, Calls.NAMES[s[0]], s[1], s[2], s[3], s[4]);
            }
            return x;
        }
    }

    private static List<Story> stories() {
        List<Story> all = new ArrayList<>();
        all.add(new Story("new", 3));
        all.add(new Story("one thing", 1).then("relation", 3, NONE, NONE).then("set", 0, 0, 0));
        all.add(new Story("kinds", 3).then("kind", 0, 3).then("kind", 2, 1));
        all.add(pushedOut());
        all.add(ofKinds());
        all.add(byConditions());
        all.add(twelve());
        all.add(new Story("cleared", 3).then("kind", 1, 2).then("relation", 0, NONE, NONE).then("set", 0, 0, 1)
                .then("set", 0, 0, 2).then("condition", 1, 0, NONE).then("clear"));
        return all;
    }

    private static Story pushedOut() {
        return new Story("pushed out", 4).then("relation", 4, NONE, NONE).then("set", 0, 0, 1).then("set", 0, 2, 3)
                .then("relation", 6, NONE, NONE).then("set", 1, 3, 1).then("set", 0, 3, 1);
    }

    private static Story ofKinds() {
        Story story = new Story("of kinds", 4).then("kind", 1, 1).then("kind", 2, 1);
        for (int form = 0; form <= 6; form++) {
            story.then("relation", form, 1, 1);
        }
        return story.then("set", 0, 1, 2).then("set", 0, 1, 1).then("set", 4, 1, 2).then("set", 6, 2, 1);
    }

    private static Story byConditions() {
        Story story = new Story("by conditions", 3).then("relation", 3, NONE, NONE).then("set", 0, 0, 1)
                .then("set", 0, 1, 2);
        for (int condition = 0; condition <= 5; condition++) {
            story.then("condition", condition, 0, condition >= 2 && condition <= 4 ? 0 : NONE);
        }
        return story.then("relation", 2, NONE, NONE).then("set", 7, 0, 0).then("set", 7, 0, 1);
    }

    private static Story twelve() {
        Story story = new Story("twelve", 2).then("kind", 1, 3);
        for (int made = 0; made < 7; made++) {
            story.then("relation", made, made < 4 ? made - 1 : NONE, NONE);
        }
        for (int made = 7; made < 12; made++) {
            story.then("condition", 1, made - 1, NONE);
        }
        return story.then("set", 4, 0, 1).then("set", 5, 1, 1);
    }

    private static void everyMix(Story story) {
        String before = Snapshot.all(story.rows());
        int relations = story.model().of(1);
        for (String name : Calls.NAMES) {
            int[] numbers = edges(bounds(name, story.things, relations));
            int[] at = new int[4];
            int taken = Calls.taken(name);
            for (int mixes = power(numbers.length, taken); mixes > 0; mixes--) {
                oneMix(story, before, name, taken > 0 ? numbers[at[0]] : 0, taken > 1 ? numbers[at[1]] : 0,
                        taken > 2 ? numbers[at[2]] : 0, taken > 3 ? numbers[at[3]] : 0);
                step(at, numbers.length);
            }
        }
    }

    private static int power(int base, int times) {
        int power = 1;
        for (int i = 0; i < times; i++) {
            power *= base;
        }
        return power;
    }

    private static void step(int[] at, int bound) {
        for (int i = 0; i < at.length; i++) {
            at[i]++;
            if (at[i] < bound) {
                return;
            }
            at[i] = 0;
        }
    }

    /** The first numbers that are too great for the call: of things, relations, kinds, forms, conditions, which, what. */
    private static int[] bounds(String name, int things, int relations) {
        return switch (name) {
            case "kind" -> new int[] {4, things};
            case "relation" -> new int[] {4, 7};
            case "condition" -> new int[] {6, relations};
            case "pushed" -> new int[] {1, 2};
            case "of", "told" -> new int[] {3, relations};
            default -> new int[] {things, relations};
        };
    }

    /** The numbers on both sides of every bound, and the farthest. */
    private static int[] edges(int[] bounds) {
        TreeSet<Integer> found = new TreeSet<>(List.of(Scenes.LEAST, -2, -1, 0, 1, Scenes.MOST));
        for (int bound : bounds) {
            found.add(bound - 1);
            found.add(bound);
        }
        int[] numbers = new int[found.size()];
        int at = 0;
        for (int number : found) {
            numbers[at] = number;
            at++;
        }
        return numbers;
    }

    private static void oneMix(Story story, String before, String name, int p, int q, int t, int u) {
        Model model = story.model();
        Rows real = story.rows();
        String due = Check.outcome(() -> Calls.on(model, name, p, q, t, u));
        String got = Check.outcome(() -> Calls.on(real, name, p, q, t, u));
        String what = story.name + ": " + name + "(" + p + ", " + q + ", " + t + ", " + u + ")";
        CHECK.sameText(what, got, due);
        if (got.startsWith("throws.")) {
            CHECK.sameText(what + " changed the object:", Snapshot.all(real), before);
        }
    }
}
