/** Objects that many tests begin with. */
final class Scenes {
    static final int NONE = RelationRows.NONE;
    static final int LEAST = Integer.MIN_VALUE;
    static final int MOST = Integer.MAX_VALUE;

    private Scenes() {
    }

    /** The numbers just beyond 0 .. above - 1, and the farthest. */
    static int[] beyond(int above) {
        return new int[] {-1, above, LEAST, MOST};
    }

    /** Things of kinds 0, 0, 1, 1, 2, 2. */
    static Rows sixOfThreeKinds() {
        Rows x = new Rows(6);
        for (int thing = 0; thing < 6; thing++) {
            x.kind(thing, thing / 2);
        }
        return x;
    }

    /** One relation of any kinds, with these pairs set in their order. */
    static Rows withPairs(int things, int form, int... pairs) {
        Rows x = new Rows(things);
        x.relation(form, NONE, NONE);
        setAll(x, 0, pairs);
        return x;
    }

    static void setAll(Rows x, int relation, int... pairs) {
        for (int i = 0; i + 1 < pairs.length; i += 2) {
            x.set(relation, pairs[i], pairs[i + 1]);
        }
    }

    /** Each thing with the next one. */
    static Rows chain(int things, int form) {
        Rows x = new Rows(things);
        x.relation(form, NONE, NONE);
        for (int a = 0; a + 1 < things; a++) {
            x.set(0, a, a + 1);
        }
        return x;
    }

    /** Twelve relations, the last one by a condition. */
    static Rows full() {
        Rows x = new Rows(4);
        x.kind(3, 3);
        for (int made = 0; made < 11; made++) {
            x.relation(made % 7, NONE, NONE);
        }
        x.condition(1, 0, NONE);
        return x;
    }

    static int number(boolean answer) {
        return answer ? 1 : 0;
    }
}
