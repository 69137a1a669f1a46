/** The calls of the face by their names, on the class and on the model; a boolean counts 1 or 0. */
final class Calls {
    static final String[] NAMES = {
        "clear", "kind", "relation", "condition", "set", "drop", "empty", "pushed", "has", "next", "back", "count",
        "length", "route", "leader", "differ", "tally", "of", "told",
    };
    private static final int[] TAKEN = {0, 2, 3, 3, 3, 3, 1, 2, 3, 3, 3, 1, 3, 4, 2, 2, 2, 1, 2};

    private Calls() {
    }

    static int numberOf(String name) {
        for (int i = 0; i < NAMES.length; i++) {
            if (NAMES[i].equals(name)) {
                return i;
            }
        }
        throw new AssertionError("no such call: " + name);
    }

    /** How many numbers the call takes. */
    static int taken(String name) {
        return TAKEN[numberOf(name)];
    }

    static long on(Model x, String name, int p, int q, int t, int u) {
        return switch (name) {
            case "clear" -> x.clear();
            case "kind" -> x.kind(p, q);
            case "relation" -> x.relation(p, q, t);
            case "condition" -> x.condition(p, q, t);
            case "set" -> x.set(p, q, t);
            case "drop" -> x.drop(p, q, t) ? 1 : 0;
            case "empty" -> x.empty(p);
            case "pushed" -> x.pushed(p, q);
            case "has" -> x.has(p, q, t) ? 1 : 0;
            case "next" -> x.next(p, q, t);
            case "back" -> x.back(p, q, t);
            case "count" -> x.count(p);
            case "length" -> x.length(p, q, t);
            case "route" -> x.route(p, q, t, u);
            case "leader" -> x.leader(p, q);
            case "differ" -> x.differ(p, q);
            case "tally" -> x.tally(p, q);
            case "of" -> x.of(p);
            default -> x.told(p, q);
        };
    }

    static long on(Rows x, String name, int p, int q, int t, int u) {
        return switch (name) {
            case "clear" -> x.clear();
            case "kind" -> x.kind(p, q);
            case "relation" -> x.relation(p, q, t);
            case "condition" -> x.condition(p, q, t);
            case "set" -> x.set(p, q, t);
            case "drop" -> x.drop(p, q, t) ? 1 : 0;
            case "empty" -> x.empty(p);
            case "pushed" -> x.pushed(p, q);
            case "has" -> x.has(p, q, t) ? 1 : 0;
            case "next" -> x.next(p, q, t);
            case "back" -> x.back(p, q, t);
            case "count" -> x.count(p);
            case "length" -> x.length(p, q, t);
            case "route" -> x.route(p, q, t, u);
            case "leader" -> x.leader(p, q);
            case "differ" -> x.differ(p, q);
            case "tally" -> x.tally(p, q);
            case "of" -> x.of(p);
            default -> x.told(p, q);
        };
    }
}
