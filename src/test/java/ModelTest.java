import java.util.Random;

/** Long runs of drawn calls, the same each time: the class and the model answer, or refuse, alike. */
public final class ModelTest {
    private static final int RUNS = 1500;
    /** How often each of the calls is drawn, beside the others. */
    private static final int[] WEIGHTS = {1, 12, 12, 12, 150, 30, 2, 20, 25, 25, 25, 12, 25, 40, 20, 15, 15, 8, 8};

    private final Check check;
    private final Random random;
    private final Rows real;
    private final Model model;
    private final int things;
    /** A run keeps to few things, or to all, so that pairs meet. */
    private final int busy;

    private ModelTest(Check check, long seed) {
        this.check = check;
        random = new Random(seed);
        int asked = random.nextInt(12) == 0 ? random.nextInt(60) - 10 : 2 + random.nextInt(9);
        real = new Rows(asked);
        model = new Model(asked);
        things = model.of(0);
        busy = Math.min(things, 3 + random.nextInt(40));
    }

    public static void main(String[] args) {
        Check check = new Check();
        for (int seed = 1; seed <= RUNS; seed++) {
            new ModelTest(check, seed).run(seed);
        }
        check.end();
    }

    private void run(int seed) {
        for (int kinds = random.nextInt(2) * random.nextInt(things + 1); kinds > 0; kinds--) {
            ask(seed, "kind", thing(), random.nextInt(3), 0, 0);
        }
        for (int made = random.nextInt(6); made > 0; made--) {
            drawn(seed, "relation");
        }
        while (real.calls() < Rows.MOST_CALLS) {
            String name = drawnName();
            // With relations about, clear would end most runs too early.
            if (name.equals("clear") && random.nextInt(3) != 0) {
                name = "set";
            }
            if (!drawn(seed, name)) {
                return;
            }
        }
    }

    private String drawnName() {
        int all = 0;
        for (int weight : WEIGHTS) {
            all += weight;
        }
        int left = random.nextInt(all);
        int at = 0;
        while (left >= WEIGHTS[at]) {
            left -= WEIGHTS[at];
            at++;
        }
        return Calls.NAMES[at];
    }

    private boolean drawn(int seed, String name) {
        switch (name) {
            case "kind":
                return ask(seed, name, thing(), small(4), 0, 0);
            case "relation": {
                int first = random.nextInt(3) == 0 ? small(4) : -1;
                int second = random.nextInt(2) == 0 ? first : small(4);
                return ask(seed, name, small(7), first, second, 0);
            }
            case "condition":
                return ask(seed, name, small(6), relation(), random.nextInt(2) == 0 ? -1 : relation(), 0);
            case "set", "drop", "has", "length":
                return ask(seed, name, relation(), thing(), thing(), 0);
            case "route":
                return ask(seed, name, relation(), thing(), thing(), small(3));
            case "next", "back":
                return ask(seed, name, relation(), thing(), small(3), 0);
            case "leader":
                return ask(seed, name, relation(), thing(), 0, 0);
            case "pushed":
                return ask(seed, name, small(2), small(2), 0, 0);
            case "differ":
                return ask(seed, name, relation(), relation(), 0, 0);
            case "tally":
                return ask(seed, name, thing(), thing(), 0, 0);
            case "told":
                return ask(seed, name, relation(), small(3), 0, 0);
            case "of":
                return ask(seed, name, small(3), 0, 0, 0);
            default:
                return ask(seed, name, relation(), 0, 0, 0);
        }
    }

    private int thing() {
        return random.nextInt(60) == 0 ? wrong(things) : random.nextInt(busy);
    }

    private int relation() {
        int relations = model.of(1);
        return relations == 0 || random.nextInt(60) == 0 ? wrong(relations) : random.nextInt(relations);
    }

    private int small(int bound) {
        return random.nextInt(30) == 0 ? wrong(bound) : random.nextInt(bound);
    }

    private int wrong(int bound) {
        switch (random.nextInt(5)) {
            case 0:
                return bound;
            case 1:
                return bound + 1 + random.nextInt(50);
            case 2:
                return -2 - random.nextInt(50);
            case 3:
                return random.nextBoolean() ? Integer.MIN_VALUE : Integer.MAX_VALUE;
            default:
                return -1;
        }
    }

    private boolean ask(int seed, String name, int p, int q, int t, int u) {
        String due = Check.outcome(() -> Calls.on(model, name, p, q, t, u));
        String got = Check.outcome(() -> Calls.on(real, name, p, q, t, u));
        check.sameText("seed " + seed + ": " + name + "(" + p + ", " + q + ", " + t + ", " + u + ")", got, due);
        return got.equals(due);
    }
}
