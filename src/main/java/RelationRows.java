import java.util.Arrays;
import java.util.NoSuchElementException;

/** Relations among up to forty things; ../shared/DOC.md tells each promise. */
public final class RelationRows {
    public static final int NONE = -1;

    private static final int MOST_THINGS = 40;
    private static final int MOST_RELATIONS = 12;
    private static final int MOST_PUSHED = 2;
    private static final int LAST_KIND = 3;

    private static final int ONE_TO_ONE = 0;
    private static final int ONE_TO_MANY = 1;
    private static final int MANY_TO_ONE = 2;
    private static final int TWINS = 4;
    private static final int MUTUAL = 5;
    private static final int CLASSES = 6;

    private static final int TURNED = 0;
    private static final int NOT = 1;
    private static final int BOTH = 2;
    private static final int EITHER = 3;
    private static final int THROUGH = 4;
    private static final int FAR = 5;

    /** What told() adds to a condition's number, so that no condition looks like a form. */
    private static final int BY_CONDITION = 10;

    private final int things;
    private final long allThings;
    private final int[] kinds;
    private final int[] tallies;

    private int relations;
    private final int[] forms;
    private final int[] firsts;
    private final int[] seconds;
    /** Bit b of rows[relation][a] says that (a, b) is a pair. */
    private final long[][] rows;
    /** Rows by a condition are worked out late: those of relations from here on may be stale. */
    private int settled;

    private int pushedCount;
    private final int[] pushedFirsts;
    private final int[] pushedSeconds;

    /** Used anew by each route: how many steps each thing is from its end. */
    private final int[] steps;

    public RelationRows(int things) {
        int n = Math.max(1, Math.min(MOST_THINGS, things));
        this.things = n;
        allThings = (1L << n) - 1L;
        kinds = new int[n];
        tallies = new int[n * n];
        forms = new int[MOST_RELATIONS];
        firsts = new int[MOST_RELATIONS];
        seconds = new int[MOST_RELATIONS];
        rows = new long[MOST_RELATIONS][n];
        pushedFirsts = new int[MOST_PUSHED];
        pushedSeconds = new int[MOST_PUSHED];
        steps = new int[n];
    }

    public int clear() {
        int were = relations;
        relations = 0;
        settled = 0;
        pushedCount = 0;
        Arrays.fill(kinds, 0);
        Arrays.fill(tallies, 0);
        return were;
    }

    public int kind(int thing, int kind) throws IllegalArgumentException, IllegalStateException {
        needThing(thing);
        if (kind < 0 || kind > LAST_KIND) {
            throw new IllegalArgumentException("no such kind");
        }
        if (relations > 0) {
            throw new IllegalStateException("there are relations already");
        }
        int was = kinds[thing];
        kinds[thing] = kind;
        return was;
    }

    public int relation(int form, int first, int second) throws IllegalArgumentException, IllegalStateException {
        if (form < ONE_TO_ONE || form > CLASSES) {
            throw new IllegalArgumentException("no such form");
        }
        needKindOrNone(first);
        needKindOrNone(second);
        if (form >= TWINS && first != second) {
            throw new IllegalArgumentException("this form has like kinds");
        }
        needRoomForRelation();
        int made = addRelation(form, first, second);
        startRows(made);
        return made;
    }

    public int condition(int condition, int r, int s) throws IllegalArgumentException, IllegalStateException {
        if (condition < TURNED || condition > FAR) {
            throw new IllegalArgumentException("no such condition");
        }
        needRelation(r);
        if (takesTwo(condition)) {
            needRelation(s);
        } else if (s != NONE) {
            throw new IllegalArgumentException("one relation is enough");
        }
        needRoomForRelation();
        return addRelation(BY_CONDITION + condition, r, s);
    }

    public int set(int relation, int a, int b) throws IllegalArgumentException, IllegalStateException {
        needSettable(relation, a, b);
        pushedCount = 0;
        tallies[a * things + b]++;
        if (!holds(relation, a, b)) {
            pushOut(relation, a, b);
            join(relation, a, b);
            makeStale(relation);
        }
        return pushedCount;
    }

    public boolean drop(int relation, int a, int b) throws IllegalArgumentException, IllegalStateException {
        needSettable(relation, a, b);
        if (!holds(relation, a, b) || forms[relation] == CLASSES && a == b) {
            return false;
        }
        part(relation, a, b);
        makeStale(relation);
        return true;
    }

    public int empty(int relation) throws IllegalArgumentException, IllegalStateException {
        needRelation(relation);
        needForm(relation);
        int before = pairsOf(relation);
        startRows(relation);
        makeStale(relation);
        return before - pairsOf(relation);
    }

    public int pushed(int i, int which) throws IllegalArgumentException, NoSuchElementException {
        if (which != 0 && which != 1) {
            throw new IllegalArgumentException("which is 0 or 1");
        }
        if (i < 0 || i >= pushedCount) {
            throw new NoSuchElementException("no such pair was pushed out");
        }
        return which == 0 ? pushedFirsts[i] : pushedSeconds[i];
    }

    public boolean has(int relation, int a, int b) throws IllegalArgumentException {
        needRelation(relation);
        needThing(a);
        needThing(b);
        settle(relation);
        return holds(relation, a, b);
    }

    public int next(int relation, int a, int i) throws IllegalArgumentException, NoSuchElementException {
        needRelation(relation);
        needThing(a);
        settle(relation);
        return pick(rows[relation][a], i);
    }

    public int back(int relation, int b, int i) throws IllegalArgumentException, NoSuchElementException {
        needRelation(relation);
        needThing(b);
        settle(relation);
        return pick(column(relation, b), i);
    }

    public int count(int relation) throws IllegalArgumentException {
        needRelation(relation);
        settle(relation);
        return pairsOf(relation);
    }

    public int length(int relation, int a, int b) throws IllegalArgumentException {
        needRelation(relation);
        needThing(a);
        needThing(b);
        settle(relation);
        measureSteps(relation, b);
        return steps[a];
    }

    public int route(int relation, int a, int b, int i) throws IllegalArgumentException, NoSuchElementException {
        needRelation(relation);
        needThing(a);
        needThing(b);
        settle(relation);
        measureSteps(relation, b);
        // Where there is no route, steps[a] is NONE, less than any i from 0.
        if (i < 0 || i > steps[a]) {
            throw new NoSuchElementException("the route has no such thing");
        }
        int at = a;
        for (int step = 0; step < i; step++) {
            at = stepNearer(relation, at);
        }
        return at;
    }

    public int leader(int relation, int a) throws IllegalArgumentException, IllegalStateException {
        needRelation(relation);
        needThing(a);
        if (forms[relation] != CLASSES) {
            throw new IllegalStateException("the relation has no classes");
        }
        if (!isOfKind(a, firsts[relation])) {
            throw new IllegalArgumentException("the thing is of another kind");
        }
        return Long.numberOfTrailingZeros(rows[relation][a]);
    }

    public int differ(int r, int s) throws IllegalArgumentException {
        needRelation(r);
        needRelation(s);
        settle(Math.max(r, s));
        for (int a = 0; a < things; a++) {
            long unlike = rows[r][a] ^ rows[s][a];
            if (unlike != 0L) {
                return a * MOST_THINGS + Long.numberOfTrailingZeros(unlike);
            }
        }
        return NONE;
    }

    public int tally(int a, int b) throws ArrayIndexOutOfBoundsException {
        if (!isThing(a) || !isThing(b)) {
            throw new ArrayIndexOutOfBoundsException("no such thing");
        }
        return tallies[a * things + b];
    }

    public int of(int what) throws IllegalArgumentException {
        switch (what) {
            case 0:
                return things;
            case 1:
                return relations;
            case 2:
                return pushedCount;
            default:
                throw new IllegalArgumentException("what is 0, 1 or 2");
        }
    }

    public int told(int relation, int what) throws IllegalArgumentException {
        needRelation(relation);
        switch (what) {
            case 0:
                return forms[relation];
            case 1:
                return firsts[relation];
            case 2:
                return seconds[relation];
            default:
                throw new IllegalArgumentException("what is 0, 1 or 2");
        }
    }

    // What a call needs of its arguments.

    private boolean isThing(int thing) {
        return thing >= 0 && thing < things;
    }

    private void needThing(int thing) {
        if (!isThing(thing)) {
            throw new IllegalArgumentException("no such thing");
        }
    }

    private void needRelation(int relation) {
        if (relation < 0 || relation >= relations) {
            throw new IllegalArgumentException("no such relation");
        }
    }

    private void needKindOrNone(int kind) {
        if (kind != NONE && (kind < 0 || kind > LAST_KIND)) {
            throw new IllegalArgumentException("no such kind");
        }
    }

    private void needRoomForRelation() {
        if (relations >= MOST_RELATIONS) {
            throw new IllegalStateException("there are as many relations as can be");
        }
    }

    private void needForm(int relation) {
        if (isByCondition(relation)) {
            throw new IllegalStateException("it is a relation by a condition");
        }
    }

    /** A relation by a condition has no kinds, so asking for its form before the fit keeps the document's order. */
    private void needSettable(int relation, int a, int b) {
        needRelation(relation);
        needThing(a);
        needThing(b);
        needForm(relation);
        if (!isOfKind(a, firsts[relation]) || !isOfKind(b, seconds[relation])) {
            throw new IllegalArgumentException("the pair does not fit");
        }
        if (forms[relation] == TWINS && a == b) {
            throw new IllegalArgumentException("no thing is its own twin");
        }
    }

    private boolean isOfKind(int thing, int kind) {
        return kind == NONE || kinds[thing] == kind;
    }

    private boolean isByCondition(int relation) {
        return forms[relation] >= BY_CONDITION;
    }

    private static boolean takesTwo(int condition) {
        return condition == BOTH || condition == EITHER || condition == THROUGH;
    }

    // Relations and their pairs.

    private int addRelation(int form, int first, int second) {
        int made = relations;
        forms[made] = form;
        firsts[made] = first;
        seconds[made] = second;
        relations++;
        return made;
    }

    /** The rows of a relation of a form with no pairs but those that never go. */
    private void startRows(int relation) {
        boolean alone = forms[relation] == CLASSES;
        for (int a = 0; a < things; a++) {
            rows[relation][a] = alone && isOfKind(a, firsts[relation]) ? bit(a) : 0L;
        }
    }

    private static long bit(int thing) {
        return 1L << thing;
    }

    private boolean holds(int relation, int a, int b) {
        return (rows[relation][a] & bit(b)) != 0L;
    }

    private long column(int relation, int b) {
        long column = 0L;
        for (int a = 0; a < things; a++) {
            if (holds(relation, a, b)) {
                column |= bit(a);
            }
        }
        return column;
    }

    private int pairsOf(int relation) {
        int pairs = 0;
        for (int a = 0; a < things; a++) {
            pairs += Long.bitCount(rows[relation][a]);
        }
        return pairs;
    }

    private int pick(long row, int i) {
        if (i < 0 || i >= Long.bitCount(row)) {
            throw new NoSuchElementException("there are not so many");
        }
        long left = row;
        for (int passed = 0; passed < i; passed++) {
            left &= left - 1L;
        }
        return Long.numberOfTrailingZeros(left);
    }

    // Setting pairs and letting them go.

    private void pushOut(int relation, int a, int b) {
        switch (forms[relation]) {
            case ONE_TO_ONE:
                pushRow(relation, a);
                pushColumn(relation, b);
                break;
            case ONE_TO_MANY:
                pushColumn(relation, b);
                break;
            case MANY_TO_ONE:
                pushRow(relation, a);
                break;
            case TWINS:
                pushRow(relation, a);
                pushRow(relation, b);
                break;
            default:
                break;
        }
    }

    private void pushRow(int relation, int a) {
        for (int x = 0; x < things; x++) {
            if (holds(relation, a, x)) {
                pushPair(relation, a, x);
            }
        }
    }

    private void pushColumn(int relation, int b) {
        for (int x = 0; x < things; x++) {
            if (holds(relation, x, b)) {
                pushPair(relation, x, b);
            }
        }
    }

    private void pushPair(int relation, int a, int b) {
        part(relation, a, b);
        if (pushedCount < MOST_PUSHED) {
            pushedFirsts[pushedCount] = a;
            pushedSeconds[pushedCount] = b;
            pushedCount++;
        }
    }

    private boolean goesBothWays(int relation) {
        return forms[relation] == TWINS || forms[relation] == MUTUAL;
    }

    private void join(int relation, int a, int b) {
        if (forms[relation] == CLASSES) {
            makeClass(relation, rows[relation][a] | rows[relation][b]);
            return;
        }
        rows[relation][a] |= bit(b);
        if (goesBothWays(relation)) {
            rows[relation][b] |= bit(a);
        }
    }

    private void part(int relation, int a, int b) {
        if (forms[relation] == CLASSES) {
            makeClass(relation, rows[relation][a] & ~bit(a));
            makeClass(relation, bit(a));
            return;
        }
        rows[relation][a] &= ~bit(b);
        if (goesBothWays(relation)) {
            rows[relation][b] &= ~bit(a);
        }
    }

    private void makeClass(int relation, long members) {
        for (int a = 0; a < things; a++) {
            if ((members & bit(a)) != 0L) {
                rows[relation][a] = members;
            }
        }
    }

    // Relations by conditions.

    /** A condition names only relations before it, so a change reaches none up to the changed one. */
    private void makeStale(int relation) {
        settled = Math.min(settled, relation + 1);
    }

    private void settle(int relation) {
        for (int r = settled; r <= relation; r++) {
            if (isByCondition(r)) {
                workOut(r);
            }
        }
        settled = Math.max(settled, relation + 1);
    }

    private void workOut(int relation) {
        int condition = forms[relation] - BY_CONDITION;
        if (condition == FAR) {
            workOutFar(relation);
            return;
        }
        for (int a = 0; a < things; a++) {
            rows[relation][a] = rowBy(condition, firsts[relation], seconds[relation], a);
        }
    }

    private long rowBy(int condition, int r, int s, int a) {
        switch (condition) {
            case TURNED:
                return column(r, a);
            case NOT:
                return ~rows[r][a] & allThings;
            case BOTH:
                return rows[r][a] & rows[s][a];
            case EITHER:
                return rows[r][a] | rows[s][a];
            default:
                return rowThrough(r, s, a);
        }
    }

    private long rowThrough(int r, int s, int a) {
        long row = 0L;
        for (int c = 0; c < things; c++) {
            if (holds(r, a, c)) {
                row |= rows[s][c];
            }
        }
        return row;
    }

    /** After round c the rows know every way whose things between are c at most. */
    private void workOutFar(int relation) {
        System.arraycopy(rows[firsts[relation]], 0, rows[relation], 0, things);
        for (int c = 0; c < things; c++) {
            for (int a = 0; a < things; a++) {
                if (holds(relation, a, c)) {
                    rows[relation][a] |= rows[relation][c];
                }
            }
        }
    }

    // Routes.

    /** Steps are counted towards the end, so that a route can be walked from its start by least numbers. */
    private void measureSteps(int relation, int end) {
        Arrays.fill(steps, NONE);
        steps[end] = 0;
        long reached = bit(end);
        for (int far = 1; far < things; far++) {
            long before = reached;
            for (int a = 0; a < things; a++) {
                if (steps[a] == NONE && (rows[relation][a] & before) != 0L) {
                    steps[a] = far;
                    reached |= bit(a);
                }
            }
            if (reached == before) {
                break;
            }
        }
    }

    private int stepNearer(int relation, int at) {
        for (int c = 0; c < things; c++) {
            if (holds(relation, at, c) && steps[c] == steps[at] - 1) {
                return c;
            }
        }
        return at;
    }
}
