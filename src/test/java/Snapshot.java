/** What an object tells, as a text: asked of fresh ones that went the same way, so that the asking leaves no trace. */
final class Snapshot {
    /** With more things than these, only what the other answers follow from is asked. */
    private static final int FEW_THINGS = 8;

    private final Rows rows;
    private final StringBuilder text = new StringBuilder();
    private RelationRows fresh;
    private int left = 0;

    private Snapshot(Rows rows) {
        this.rows = rows;
    }

    /** Things, relations, what was pushed out, pairs and tallies. */
    static String of(Rows rows) {
        Snapshot shot = new Snapshot(rows);
        shot.addNumbers();
        shot.addRelations();
        shot.addTallies();
        return shot.text.toString();
    }

    /** All that can be learned of an object. */
    static String all(Rows rows) {
        Snapshot shot = new Snapshot(rows);
        shot.addNumbers();
        shot.addRelations();
        shot.addTallies();
        shot.addKinds();
        int relations = shot.one().of(1);
        if (shot.one().of(0) <= FEW_THINGS) {
            for (int r = 0; r < relations; r++) {
                shot.addWalks(r);
            }
        }
        return shot.text.toString();
    }

    static String pairs(Rows rows, int relation) {
        Snapshot shot = new Snapshot(rows);
        shot.addPairs(relation);
        return shot.text.toString();
    }

    /** The object to ask next, which has not been used for all its calls. */
    private RelationRows one() {
        if (left == 0) {
            fresh = rows.again();
            left = Rows.MOST_CALLS - rows.calls();
        }
        if (left == 0) {
            throw new AssertionError("this test leaves no call to ask with");
        }
        left--;
        return fresh;
    }

    private void addNumbers() {
        int pushed = one().of(2);
        text.append(one().of(0)).append(" things, ").append(one().of(1)).append(" relations, pushed");
        for (int i = 0; i < pushed; i++) {
            text.append(' ').append(one().pushed(i, 0)).append('-').append(one().pushed(i, 1));
        }
        text.append('\n');
    }

    private void addRelations() {
        int relations = one().of(1);
        for (int r = 0; r < relations; r++) {
            text.append(r).append(": ").append(one().told(r, 0)).append(' ').append(one().told(r, 1)).append(' ')
                    .append(one().told(r, 2)).append(" pairs");
            addPairs(r);
            text.append('\n');
        }
    }

    private void addPairs(int relation) {
        int things = one().of(0);
        for (int a = 0; a < things; a++) {
            for (int b = 0; b < things; b++) {
                if (one().has(relation, a, b)) {
                    text.append(' ').append(a).append('-').append(b);
                }
            }
        }
    }

    private void addTallies() {
        text.append("tallies");
        int things = one().of(0);
        for (int a = 0; a < things; a++) {
            for (int b = 0; b < things; b++) {
                int tally = one().tally(a, b);
                if (tally != 0) {
                    text.append(' ').append(a).append('-').append(b).append('=').append(tally);
                }
            }
        }
    }

    /** Kinds are told by kind() as long as there are no relations, then by which things are in the classes of a kind. */
    private void addKinds() {
        int things = one().of(0);
        int relations = one().of(1);
        text.append("\nkinds");
        for (int kind = 0; kind <= 3 && relations < 12; kind++) {
            if (rows.calls() + 1 + things > Rows.MOST_CALLS) {
                throw new AssertionError("this test leaves too few calls to ask for kinds with");
            }
            RelationRows asked = rows.again();
            int classes = relations == 0 ? -1 : asked.relation(6, kind, kind);
            for (int thing = 0; thing < things; thing++) {
                boolean is = relations == 0 ? asked.kind(thing, kind) == kind : asked.has(classes, thing, thing);
                text.append(is ? " " + thing + "=" + kind : "");
            }
        }
        text.append('\n');
    }

    private void addWalks(int relation) {
        int things = one().of(0);
        int relations = one().of(1);
        text.append(relation).append(" count ").append(one().count(relation));
        for (int r = 0; r < relations; r++) {
            text.append(" differ ").append(one().differ(relation, r));
        }
        for (int a = 0; a < things; a++) {
            int thing = a;
            text.append(" of ").append(a).append(" leader ").append(Check.outcome(() -> one().leader(relation, thing)));
            for (int b = 0; b < things; b++) {
                int i = b;
                text.append(' ').append(Check.outcome(() -> one().next(relation, thing, i)));
                text.append(' ').append(Check.outcome(() -> one().back(relation, thing, i)));
                text.append(' ').append(Check.outcome(() -> one().length(relation, thing, i)));
                text.append(' ').append(Check.outcome(() -> one().route(relation, thing, i, 1)));
            }
        }
        text.append('\n');
    }
}
