import java.util.ArrayList;
import java.util.List;
import java.util.NoSuchElementException;

/**
 * The document told a second time, as simply as can be and without any thought of speed: a pair of a relation by a
 * condition is asked of the relations that it stands on, each time anew.
 */
final class Model {
    private final int things;
    private final int[] kinds;
    private final int[][] tallies;
    private final List<int[]> heads = new ArrayList<>();
    private final List<boolean[][]> pairs = new ArrayList<>();
    private List<int[]> pushed = new ArrayList<>();

    Model(int asked) {
        things = asked < 1 ? 1 : asked > 40 ? 40 : asked;
        kinds = new int[things];
        tallies = new int[things][things];
    }

    int clear() {
        int were = heads.size();
        heads.clear();
        pairs.clear();
        pushed.clear();
        for (int a = 0; a < things; a++) {
            kinds[a] = 0;
            tallies[a] = new int[things];
        }
        return were;
    }

    int kind(int thing, int kind) {
        argument(isThing(thing) && kind >= 0 && kind <= 3);
        state(heads.isEmpty());
        int was = kinds[thing];
        kinds[thing] = kind;
        return was;
    }

    int relation(int form, int first, int second) {
        argument(form >= 0 && form <= 6 && first >= -1 && first <= 3 && second >= -1 && second <= 3);
        argument(form < 4 || first == second);
        state(heads.size() < 12);
        boolean[][] table = new boolean[things][things];
        heads.add(new int[] {form, first, second});
        pairs.add(table);
        for (int a = 0; a < things; a++) {
            table[a][a] = form == 6 && (first == -1 || first == kinds[a]);
        }
        return heads.size() - 1;
    }

    int condition(int condition, int r, int s) {
        argument(condition >= 0 && condition <= 5 && isRelation(r));
        argument(condition == 0 || condition == 1 || condition == 5 ? s == -1 : isRelation(s));
        state(heads.size() < 12);
        heads.add(new int[] {10 + condition, r, s});
        pairs.add(null);
        return heads.size() - 1;
    }

    int set(int relation, int a, int b) {
        boolean[][] table = settable(relation, a, b);
        int form = heads.get(relation)[0];
        pushed = new ArrayList<>();
        tallies[a][b]++;
        if (table[a][b]) {
            return 0;
        }
        if (form == 0 || form == 2 || form == 4) {
            push(relation, a, -1);
        }
        if (form == 0 || form == 1) {
            push(relation, -1, b);
        }
        if (form == 4) {
            push(relation, b, -1);
        }
        if (form == 6) {
            boolean[] one = table[a].clone();
            boolean[] other = table[b].clone();
            for (int c = 0; c < things; c++) {
                for (int d = 0; d < things; d++) {
                    table[c][d] |= (one[c] || other[c]) && (one[d] || other[d]);
                }
            }
        }
        table[a][b] = true;
        table[b][a] |= form == 4 || form == 5;
        return pushed.size();
    }

    private void push(int relation, int a, int b) {
        boolean[][] table = pairs.get(relation);
        for (int c = 0; c < things; c++) {
            for (int d = 0; d < things; d++) {
                if (table[c][d] && (a == -1 || a == c) && (b == -1 || b == d)) {
                    pushed.add(new int[] {c, d});
                    go(relation, c, d);
                }
            }
        }
    }

    private void go(int relation, int a, int b) {
        boolean[][] table = pairs.get(relation);
        int form = heads.get(relation)[0];
        table[a][b] = false;
        if (form == 4 || form == 5) {
            table[b][a] = false;
        }
        for (int c = 0; form == 6 && c < things; c++) {
            table[a][c] = c == a;
            table[c][a] = c == a;
        }
    }

    boolean drop(int relation, int a, int b) {
        boolean[][] table = settable(relation, a, b);
        boolean goes = table[a][b] && !(heads.get(relation)[0] == 6 && a == b);
        if (goes) {
            go(relation, a, b);
        }
        return goes;
    }

    int empty(int relation) {
        argument(isRelation(relation));
        state(heads.get(relation)[0] < 10);
        int before = count(relation);
        for (int a = 0; a < things; a++) {
            for (int b = 0; b < things; b++) {
                if (pairs.get(relation)[a][b]) {
                    goIfItCan(relation, a, b);
                }
            }
        }
        return before - count(relation);
    }

    private void goIfItCan(int relation, int a, int b) {
        if (heads.get(relation)[0] != 6 || a != b) {
            go(relation, a, b);
        }
    }

    int pushed(int i, int which) {
        argument(which == 0 || which == 1);
        element(i >= 0 && i < pushed.size());
        return pushed.get(i)[which];
    }

    boolean has(int relation, int a, int b) {
        argument(isRelation(relation) && isThing(a) && isThing(b));
        return table(relation)[a][b];
    }

    int next(int relation, int a, int i) {
        argument(isRelation(relation) && isThing(a));
        List<Integer> found = new ArrayList<>();
        for (int b = 0; b < things; b++) {
            if (table(relation)[a][b]) {
                found.add(b);
            }
        }
        element(i >= 0 && i < found.size());
        return found.get(i);
    }

    int back(int relation, int b, int i) {
        argument(isRelation(relation) && isThing(b));
        List<Integer> found = new ArrayList<>();
        boolean[][] table = table(relation);
        for (int a = 0; a < things; a++) {
            if (table[a][b]) {
                found.add(a);
            }
        }
        element(i >= 0 && i < found.size());
        return found.get(i);
    }

    int count(int relation) {
        argument(isRelation(relation));
        int found = 0;
        for (boolean[] row : table(relation)) {
            for (boolean pair : row) {
                found += pair ? 1 : 0;
            }
        }
        return found;
    }

    int length(int relation, int a, int b) {
        argument(isRelation(relation) && isThing(a) && isThing(b));
        List<Integer> way = way(relation, a, b);
        return way == null ? -1 : way.size() - 1;
    }

    int route(int relation, int a, int b, int i) {
        argument(isRelation(relation) && isThing(a) && isThing(b));
        List<Integer> way = way(relation, a, b);
        element(way != null && i >= 0 && i < way.size());
        return way.get(i);
    }

    /** Ways are kept in order, each thing with the first way that reaches it: of ways as short the first one by numbers. */
    private List<Integer> way(int relation, int a, int b) {
        boolean[][] table = table(relation);
        boolean[] seen = new boolean[things];
        List<List<Integer>> ways = new ArrayList<>();
        ways.add(List.of(a));
        seen[a] = true;
        for (int at = 0; at < ways.size(); at++) {
            List<Integer> way = ways.get(at);
            int last = way.get(way.size() - 1);
            if (last == b) {
                return way;
            }
            for (int c = 0; c < things; c++) {
                if (table[last][c] && !seen[c]) {
                    seen[c] = true;
                    List<Integer> longer = new ArrayList<>(way);
                    longer.add(c);
                    ways.add(longer);
                }
            }
        }
        return null;
    }

    int leader(int relation, int a) {
        argument(isRelation(relation) && isThing(a));
        int[] head = heads.get(relation);
        argument(head[0] != 6 || head[1] == -1 || head[1] == kinds[a]);
        state(head[0] == 6);
        for (int b = 0; b < things; b++) {
            if (pairs.get(relation)[a][b]) {
                return b;
            }
        }
        return -1;
    }

    int differ(int r, int s) {
        argument(isRelation(r) && isRelation(s));
        boolean[][] one = table(r);
        boolean[][] other = table(s);
        for (int a = 0; a < things; a++) {
            for (int b = 0; b < things; b++) {
                if (one[a][b] != other[a][b]) {
                    return a * 40 + b;
                }
            }
        }
        return -1;
    }

    int tally(int a, int b) {
        if (!isThing(a) || !isThing(b)) {
            throw new ArrayIndexOutOfBoundsException();
        }
        return tallies[a][b];
    }

    int of(int what) {
        argument(what >= 0 && what <= 2);
        return what == 0 ? things : what == 1 ? heads.size() : pushed.size();
    }

    int told(int relation, int what) {
        argument(isRelation(relation) && what >= 0 && what <= 2);
        return heads.get(relation)[what];
    }

    private boolean[][] table(int relation) {
        int[] head = heads.get(relation);
        if (head[0] < 10) {
            return pairs.get(relation);
        }
        boolean[][] r = table(head[1]);
        boolean[][] s = head[2] == -1 ? null : table(head[2]);
        boolean[][] found = new boolean[things][things];
        for (int a = 0; a < things; a++) {
            for (int b = 0; b < things; b++) {
                found[a][b] = switch (head[0] - 10) {
                    case 0 -> r[b][a];
                    case 1 -> !r[a][b];
                    case 2 -> r[a][b] && s[a][b];
                    case 3 -> r[a][b] || s[a][b];
                    case 4 -> through(r, s, a, b);
                    default -> far(r, a, b);
                };
            }
        }
        return found;
    }

    private boolean through(boolean[][] r, boolean[][] s, int a, int b) {
        for (int c = 0; c < things; c++) {
            if (r[a][c] && s[c][b]) {
                return true;
            }
        }
        return false;
    }

    private boolean far(boolean[][] r, int a, int b) {
        boolean[] seen = new boolean[things];
        List<Integer> open = new ArrayList<>();
        open.add(a);
        for (int at = 0; at < open.size(); at++) {
            for (int c = 0; c < things; c++) {
                if (r[open.get(at)][c] && !seen[c]) {
                    seen[c] = true;
                    open.add(c);
                }
            }
        }
        return seen[b];
    }

    private boolean[][] settable(int relation, int a, int b) {
        argument(isRelation(relation) && isThing(a) && isThing(b));
        int[] head = heads.get(relation);
        boolean form = head[0] < 10;
        argument(!form || (head[1] == -1 || head[1] == kinds[a]) && (head[2] == -1 || head[2] == kinds[b]));
        argument(head[0] != 4 || a != b);
        state(form);
        return pairs.get(relation);
    }

    private boolean isThing(int thing) {
        return thing >= 0 && thing < things;
    }

    private boolean isRelation(int relation) {
        return relation >= 0 && relation < heads.size();
    }

    private static void argument(boolean good) {
        if (!good) {
            throw new IllegalArgumentException();
        }
    }

    private static void state(boolean good) {
        if (!good) {
            throw new IllegalStateException();
        }
    }

    private static void element(boolean good) {
        if (!good) {
            throw new NoSuchElementException();
        }
    }
}
