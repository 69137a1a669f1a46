import java.util.ArrayList;
import java.util.List;

/**
 * The object under test, with every call that was made on it remembered. What it tells can so be asked of fresh objects
 * that went the same way, and no object is ever used for more calls than the document speaks of.
 */
final class Rows {
    static final int MOST_CALLS = 512;

    interface Call {
        int on(RelationRows x);
    }

    private final int asked;
    private final RelationRows rows;
    private final List<Call> calls = new ArrayList<>();

    Rows(int things) {
        asked = things;
        rows = new RelationRows(things);
    }

    private int call(Call call) {
        if (calls.size() == MOST_CALLS) {
            throw new AssertionError("this test uses an object for too many calls");
        }
        calls.add(call);
        return call.on(rows);
    }

    int calls() {
        return calls.size();
    }

    /** A new object that went through the same calls, the refused ones too. */
    RelationRows again() {
        RelationRows fresh = new RelationRows(asked);
        for (Call call : calls) {
            try {
                call.on(fresh);
            } catch (RuntimeException e) {
                continue;
            }
        }
        return fresh;
    }

    int clear() {
        return call(x -> x.clear());
    }

    int kind(int thing, int kind) {
        return call(x -> x.kind(thing, kind));
    }

    int relation(int form, int first, int second) {
        return call(x -> x.relation(form, first, second));
    }

    int condition(int condition, int r, int s) {
        return call(x -> x.condition(condition, r, s));
    }

    int set(int relation, int a, int b) {
        return call(x -> x.set(relation, a, b));
    }

    boolean drop(int relation, int a, int b) {
        return call(x -> x.drop(relation, a, b) ? 1 : 0) == 1;
    }

    int empty(int relation) {
        return call(x -> x.empty(relation));
    }

    int pushed(int i, int which) {
        return call(x -> x.pushed(i, which));
    }

    boolean has(int relation, int a, int b) {
        return call(x -> x.has(relation, a, b) ? 1 : 0) == 1;
    }

    int next(int relation, int a, int i) {
        return call(x -> x.next(relation, a, i));
    }

    int back(int relation, int b, int i) {
        return call(x -> x.back(relation, b, i));
    }

    int count(int relation) {
        return call(x -> x.count(relation));
    }

    int length(int relation, int a, int b) {
        return call(x -> x.length(relation, a, b));
    }

    int route(int relation, int a, int b, int i) {
        return call(x -> x.route(relation, a, b, i));
    }

    int leader(int relation, int a) {
        return call(x -> x.leader(relation, a));
    }

    int differ(int r, int s) {
        return call(x -> x.differ(r, s));
    }

    int tally(int a, int b) {
        return call(x -> x.tally(a, b));
    }

    int of(int what) {
        return call(x -> x.of(what));
    }

    int told(int relation, int what) {
        return call(x -> x.told(relation, what));
    }
}
