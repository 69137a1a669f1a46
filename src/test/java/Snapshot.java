/** All that an object tells without being changed, as a text. */
final class Snapshot {
    private Snapshot() {
    }

    static String of(RelationRows x) {
        StringBuilder text = new StringBuilder();
        int things = x.of(0);
        int relations = x.of(1);
        int pushed = x.of(2);
        text.append(things).append(" things, ").append(relations).append(" relations, pushed");
        for (int i = 0; i < pushed; i++) {
            text.append(' ').append(x.pushed(i, 0)).append('-').append(x.pushed(i, 1));
        }
        text.append('\n');
        for (int r = 0; r < relations; r++) {
            text.append(r).append(": ").append(x.told(r, 0)).append(' ').append(x.told(r, 1)).append(' ')
                    .append(x.told(r, 2)).append(" pairs").append(pairs(x, r)).append('\n');
        }
        text.append("tallies");
        for (int a = 0; a < things; a++) {
            for (int b = 0; b < things; b++) {
                if (x.tally(a, b) != 0) {
                    text.append(' ').append(a).append('-').append(b).append('=').append(x.tally(a, b));
                }
            }
        }
        return text.toString();
    }

    static String pairs(RelationRows x, int relation) {
        StringBuilder text = new StringBuilder();
        int things = x.of(0);
        for (int a = 0; a < things; a++) {
            for (int b = 0; b < things; b++) {
                if (x.has(relation, a, b)) {
                    text.append(' ').append(a).append('-').append(b);
                }
            }
        }
        return text.toString();
    }
}
