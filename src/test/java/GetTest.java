/** Promises 6 and 7: get, segment. */
public final class GetTest {
    private static final Answers A = new Answers("GetTest");

    public static void main(String[] args) {
        uniqueByRelations();
        uniqueWithParts();
        last();
        place();
        next();
        nextStatuses();
        nextWithin();
        nextWithinFromElsewhere();
        parentages();
        holds();
        refusals();
        pathValues();
        pathValuesStay();
        pathOfEightLevels();
        A.end();
    }

    /**
     * Kinds: 1; 2 and 3 below it, 4 below 2. In hierarchic order, kind:key=value:
     * 1:1=1 (2:5=2 (4:1=3, 4:2=4), 2:6=5, 3:1=6), 1:2=7 (2:5=8 (4:1=9), 3:9=10), 1:3=11.
     * View 1 has its position on the last insert, view 2 is new.
     */
    private static PathCalls tree() {
        PathCalls x = new PathCalls();
        x.kind(0, true);
        x.kind(1, false);
        x.kind(1, true);
        x.kind(2, false);
        x.view();
        x.view();
        int[][] rows = {{1, 1, 1}, {2, 5, 2}, {4, 1, 3}, {4, 2, 4}, {2, 6, 5}, {3, 1, 6},
            {1, 2, 7}, {2, 5, 8}, {4, 1, 9}, {3, 9, 10}, {1, 3, 11}};
        for (int[] row : rows) {
            x.part(row[0], 0, 0);
            A.due("tree", x.insert(1, row[1], row[2]), 0);
        }
        A.dueValues("tree", x, 1, 2, 3, 4, 5, 6, 7, 8, 9, 10, 11);
        return x;
    }

    /** The value of the segment found: that on the position's own level. */
    private static void dueFound(String when, PathCalls x, int view, int call, int status, long value) {
        A.due(when + ": get(" + view + ", " + call + ")", x.get(view, call), status);
        A.due(when + ": found", x.segment(x.position(view, 1)), value);
    }

    private static void uniqueByRelations() {
        PathCalls x = tree();
        dueFound("6: without parts", x, 1, 0, 0, 1);
        long[] due = {1, 7, 11, 1, 7, 1, 1};
        for (int op = 0; op <= 6; op++) {
            x.part(1, op, 2);
            dueFound("6: relation " + op, x, 2, 0, 0, due[op]);
        }
        x.part(1, 2, 3);
        A.due("6: > the greatest", x.get(2, 0), 1);
        x.part(1, 3, 1);
        A.due("6: < the least", x.get(2, 0), 1);
        x.part(1, 4, 3);
        dueFound("6: >= the greatest", x, 2, 0, 0, 11);
        x.part(1, 5, 1);
        dueFound("6: <= the least", x, 2, 0, 0, 1);
        x.part(1, 6, 1);
        dueFound("6: not = the least", x, 2, 0, 0, 7);
        x.part(1, 2, Long.MIN_VALUE);
        dueFound("6: > Long.MIN_VALUE", x, 2, 0, 0, 1);
        x.part(1, 2, Long.MAX_VALUE);
        A.due("6: > Long.MAX_VALUE", x.get(2, 0), 1);
    }

    private static void uniqueWithParts() {
        PathCalls x = tree();
        x.part(4, 0, 0);
        dueFound("6: a part alone", x, 2, 0, 0, 3);
        x.part(1, 2, 1);
        x.part(4, 0, 0);
        dueFound("6: a level left out", x, 2, 0, 0, 9);
        x.part(1, 0, 0);
        x.part(2, 1, 5);
        x.part(4, 1, 2);
        dueFound("6: the whole way", x, 2, 0, 0, 4);
        x.part(1, 1, 2);
        x.part(2, 1, 5);
        x.part(4, 1, 2);
        A.due("6: not in that root", x.get(2, 0), 1);
        x.part(2, 1, 6);
        x.part(4, 0, 0);
        A.due("6: nothing in that one", x.get(2, 0), 1);
        dueFound("6: all stayed", x, 2, 1, 3, 5);
    }

    private static void last() {
        PathCalls x = tree();
        x.part(1, 0, 0);
        x.code(1, 1);
        dueFound("6: the last root", x, 2, 0, 0, 11);
        x.part(1, 3, 3);
        x.code(1, 1);
        dueFound("6: the last root < 3", x, 2, 0, 0, 7);
        x.part(1, 0, 0);
        x.code(1, 1);
        x.part(2, 0, 0);
        A.due("6: the last root has none", x.get(2, 0), 1);
        x.part(2, 0, 0);
        x.code(1, 1);
        dueFound("6: the last twin of the first root", x, 2, 0, 0, 5);
        x.part(2, 0, 0);
        x.code(1, 1);
        dueFound("6: the last twin of the next root", x, 2, 1, 0, 8);
        x.part(2, 0, 0);
        x.code(1, 1);
        x.part(4, 0, 0);
        dueFound("6: in a last twin", x, 2, 0, 0, 9);
        x.part(2, 5, 5);
        x.code(1, 1);
        x.part(4, 0, 0);
        x.code(2, 1);
        dueFound("6: the last in the last as told", x, 2, 0, 0, 4);
    }

    private static void place() {
        PathCalls x = tree();
        x.part(1, 0, 0);
        x.code(1, 2);
        A.due("6: no position, no place", x.get(2, 0), 1);
        x.part(1, 1, 2);
        x.part(2, 0, 0);
        dueFound("6: to 2 in root 2", x, 2, 0, 0, 8);
        x.part(1, 0, 0);
        x.code(1, 2);
        x.part(3, 0, 0);
        dueFound("6: 3 in the same root", x, 2, 0, 0, 10);
        x.part(1, 0, 0);
        x.code(1, 2);
        dueFound("6: the root that it lies in", x, 2, 0, 0, 7);
        x.part(2, 0, 0);
        x.code(1, 2);
        A.due("6: it lies in no 2", x.get(2, 0), 1);
        x.part(1, 0, 0);
        x.code(1, 2);
        x.part(3, 1, 1);
        A.due("6: none such in this root", x.get(2, 0), 1);
        x.part(1, 1, 1);
        x.code(1, 2);
        A.due("6: the place, but another key", x.get(2, 0), 1);
        x.part(1, 0, 0);
        x.code(1, 3);
        A.due("6: the place is not the last", x.get(2, 0), 1);
        x.part(1, 3, 3);
        x.code(1, 3);
        dueFound("6: the place is the last as told", x, 2, 0, 0, 7);
        x.part(1, 0, 0);
        x.code(1, 2);
        x.part(4, 0, 0);
        dueFound("6: next in the place", x, 2, 1, 0, 9);
        x.part(1, 0, 0);
        x.code(1, 2);
        x.part(4, 0, 0);
        A.due("6: no more in the place", x.get(2, 1), 2);
    }

    private static void next() {
        PathCalls x = tree();
        x.part(4, 0, 0);
        dueFound("6: next 4", x, 2, 1, 0, 3);
        x.part(4, 0, 0);
        dueFound("6: next 4", x, 2, 1, 0, 4);
        x.part(2, 0, 0);
        dueFound("6: next 2", x, 2, 1, 0, 5);
        x.part(1, 0, 0);
        x.part(2, 1, 5);
        dueFound("6: next 2 of key 5", x, 2, 1, 0, 8);
        x.part(2, 0, 0);
        A.due("6: no more", x.get(2, 1), 2);
        A.duePosition("6: ahead of all, the parentage stays", x, 2, 0, 0, 2, 0);
        x.part(1, 0, 0);
        dueFound("6: from the beginning", x, 2, 1, 0, 1);
    }

    private static void nextStatuses() {
        PathCalls x = tree();
        int[] due = {0, 0, 0, 0, 3, 4, 3, 0, 0, 3, 3};
        for (int i = 0; i < due.length; i++) {
            dueFound("6: step " + i, x, 2, 1, due[i], i + 1);
        }
        A.due("6: the end", x.get(2, 1), 2);
        A.duePosition("6: the end", x, 2, 0, 0, 1, 0);
        dueFound("6: from the beginning, with a hold", x, 2, 5, 0, 1);
        A.due("6: a hold", x.position(2, 3), 1);
        x.part(3, 0, 0);
        dueFound("6: to 3", x, 2, 0, 0, 6);
        x.part(1, 0, 0);
        dueFound("6: no status 3 with parts", x, 2, 1, 0, 7);
        x.part(1, 0, 0);
        A.due("6: to root 1", x.get(2, 0), 0);
        A.due("6: within", x.get(2, 2), 0);
        A.due("6: within", x.get(2, 2), 0);
        A.due("6: within", x.get(2, 2), 0);
        dueFound("6: no status 3 within", x, 2, 2, 0, 5);
        dueFound("6: no status 4 within", x, 2, 2, 0, 6);
    }

    private static void nextWithin() {
        PathCalls x = tree();
        A.due("6: no parentage", x.get(2, 2), 5);
        A.due("6: no parentage", x.get(2, 6), 5);
        x.part(1, 1, 1);
        dueFound("6: root 1", x, 2, 0, 0, 1);
        for (int value = 2; value <= 6; value++) {
            dueFound("6: within", x, 2, 2, 0, value);
            A.due("6: the parentage stays", x.position(2, 2), 1);
        }
        A.due("6: no more within", x.get(2, 6), 1);
        A.duePosition("6: all stays", x, 2, 3, 2, 1, 0);
        x.part(1, 0, 0);
        A.due("6: not itself", x.get(2, 2), 1);
        x.part(2, 0, 0);
        A.due("6: none behind", x.get(2, 2), 1);
        x.part(1, 1, 3);
        dueFound("6: root 3", x, 2, 0, 0, 11);
        A.due("6: nothing within it", x.get(2, 2), 1);
    }

    private static void nextWithinFromElsewhere() {
        PathCalls x = tree();
        x.part(1, 1, 2);
        dueFound("6: root 2", x, 2, 0, 0, 7);
        x.part(4, 0, 0);
        dueFound("6: 4 within", x, 2, 2, 0, 9);
        x.part(1, 0, 0);
        A.due("6: insert a root", x.insert(2, 9, 12), 0);
        A.duePosition("6: the parentage stays", x, 2, 1, 1, 1, 0);
        dueFound("6: from the parentage's beginning", x, 2, 2, 0, 8);
        x.part(1, 1, 2);
        x.part(3, 0, 0);
        x.code(1, 4);
        dueFound("6: 3, the parentage root 2", x, 2, 0, 0, 10);
        x.part(1, 1, 5);
        A.due("6: the end", x.get(2, 1), 2);
        x.part(2, 0, 0);
        dueFound("6: none is ahead of all: from its beginning", x, 2, 2, 0, 8);
    }

    private static void parentages() {
        PathCalls x = tree();
        x.part(1, 1, 1);
        x.code(1, 4);
        x.part(2, 1, 5);
        x.part(4, 1, 2);
        dueFound("6: by the first part", x, 2, 0, 0, 4);
        A.duePosition("6: by the first part", x, 2, 4, 3, 1, 0);
        A.due("15: within root 1", x.within(2), 5);
        dueFound("6: behind it", x, 2, 2, 0, 5);
        x.part(1, 0, 0);
        x.code(1, 4);
        x.part(2, 0, 0);
        x.code(2, 4);
        x.part(4, 0, 0);
        dueFound("6: the last such part counts", x, 2, 1, 0, 9);
        A.duePosition("6: the last such part counts", x, 2, 4, 3, 2, 0);
        x.part(1, 1, 1);
        x.get(2, 0);
        x.part(2, 0, 0);
        x.code(1, 4);
        dueFound("6: by 2 as well", x, 2, 2, 0, 2);
        A.duePosition("6: by 2 as well", x, 2, 2, 2, 2, 0);
        A.due("15: within that", x.within(2), 2);
        x.part(1, 1, 9);
        x.code(1, 4);
        A.due("6: not found", x.get(2, 0), 1);
        A.duePosition("6: all stays", x, 2, 2, 2, 2, 0);
        A.duePosition("6: another view's is its own", x, 1, 1, 1, 0, 0);
    }

    private static void holds() {
        PathCalls x = tree();
        for (int call = 0; call <= 2; call++) {
            A.due("6: with a hold", x.get(2, 4), 0);
            A.due("6: with a hold", x.position(2, 3), 1);
            A.due("6: without", x.get(2, call), 0);
            A.due("6: it is taken", x.position(2, 3), 0);
            A.due("6: to the first", x.get(2, 0), 0);
            A.due("6: with a hold", x.get(2, call + 4), 0);
            A.due("6: with a hold", x.position(2, 3), 1);
        }
        A.due("6: other views have none", x.position(1, 3), 0);
        A.due("6: no such view", x.get(3, 0), -1);
        A.due("6: no such view", x.position(2, 3), 1);
        x.part(1, 1, 99);
        A.due("6: not found", x.get(2, 4), 1);
        A.due("6: it is taken by 1", x.position(2, 3), 0);
        x.get(2, 4);
        A.due("6: wrong call", x.get(2, 7), 6);
        A.due("6: it is taken by 6", x.position(2, 3), 0);
        x.get(2, 4);
        x.part(1, 1, 99);
        A.due("6: the end", x.get(2, 5), 2);
        A.due("6: it is taken by 2", x.position(2, 3), 0);
    }

    private static void refusals() {
        PathCalls x = tree();
        int[] wrong = {-1, 3, 7, 8, -4, 12, Integer.MAX_VALUE, Integer.MIN_VALUE};
        for (int call : wrong) {
            A.due("6: call " + call, x.get(2, call), 6);
            A.duePosition("6: call " + call, x, 2, 0, 0, 0, 0);
        }
        int[][] unfit = {{1, 1}, {2, 1}, {2, 3}, {4, 2}, {3, 4}};
        for (int[] kinds : unfit) {
            for (int call = 0; call <= 1; call++) {
                x.part(kinds[0], 0, 0);
                x.part(kinds[1], 0, 0);
                A.due("6: parts don't fit", x.get(2, call), 6);
            }
        }
        x.part(1, 0, 0);
        x.part(2, 0, 0);
        x.part(3, 0, 0);
        A.due("6: the third doesn't fit", x.get(2, 0), 6);
        A.due("6: view 0", x.get(0, 0), -1);
        A.due("6: view 3", x.get(3, 0), -1);
        PathCalls y = new PathCalls();
        y.view();
        A.due("6: an empty base", y.get(1, 0), 1);
        A.due("6: an empty base", y.get(1, 1), 2);
        A.due("6: an empty base", y.get(1, 2), 5);
    }

    private static void duePath(String when, PathCalls x, long... values) {
        for (int level = 1; level <= 8; level++) {
            A.due("7: " + when + ": segment(" + level + ")", x.segment(level),
                level <= values.length ? values[level - 1] : 0);
        }
        A.due("7: level 0", x.segment(0), 0);
        A.due("7: level 9", x.segment(9), 0);
        A.due("7: far off", x.segment(Integer.MIN_VALUE), 0);
        A.due("7: far off", x.segment(Integer.MAX_VALUE), 0);
    }

    private static void pathValues() {
        PathCalls x = tree();
        duePath("an insert tells none", x);
        x.part(1, 0, 0);
        x.code(1, 8);
        x.part(2, 0, 0);
        x.part(4, 1, 2);
        x.get(2, 0);
        duePath("PATH on level 1", x, 1, 0, 4);
        x.part(1, 1, 2);
        x.part(2, 0, 0);
        x.code(2, 8);
        x.part(4, 0, 0);
        x.code(3, 8);
        x.get(1, 0);
        duePath("PATH on levels 2 and 3", x, 0, 8, 9);
        x.part(4, 1, 2);
        x.get(1, 0);
        duePath("the PATH of parts that are gone", x, 0, 0, 4);
        x.part(1, 1, 77);
        x.code(1, 8);
        x.get(2, 0);
        duePath("not found", x, 0, 0, 4);
        x.part(1, 1, 3);
        x.get(2, 0);
        duePath("its own level", x, 11);
        x.get(2, 1);
        duePath("the end", x, 11);
        x.part(1, 0, 0);
        x.code(1, 8);
        x.part(2, 0, 0);
        x.get(2, 1);
        duePath("by NEXT", x, 1, 2);
        x.part(4, 0, 0);
        x.get(2, 2);
        duePath("by NEXT WITHIN", x, 0, 0, 3);
    }

    private static void pathValuesStay() {
        PathCalls x = tree();
        x.part(1, 1, 1);
        x.code(1, 8);
        x.part(3, 0, 0);
        x.get(2, 4);
        x.replace(2, 600);
        duePath("as it was ahead of replace", x, 1, 6);
        x.get(1, 4);
        x.delete(1);
        duePath("as it was ahead of delete", x, 1);
        x.part(1, 0, 0);
        x.insert(1, 50, 1L << 40);
        duePath("as it was ahead of insert", x, 1);
        x.part(1, 1, 50);
        x.get(1, 0);
        duePath("all 64 bits", x, 1L << 40);
    }

    private static void pathOfEightLevels() {
        PathCalls x = new PathCalls();
        x.view();
        for (int kind = 1; kind <= 8; kind++) {
            x.kind(kind - 1, true);
            x.part(kind, 0, 0);
            A.due("7: insert on level " + kind, x.insert(1, kind, 10 * kind), 0);
        }
        for (int kind = 1; kind <= 8; kind++) {
            x.part(kind, 1, kind);
            x.code(kind, 8);
        }
        A.due("7: eight parts", x.get(1, 0), 0);
        duePath("eight levels", x, 10, 20, 30, 40, 50, 60, 70, 80);
        x.part(8, 0, 0);
        A.due("7: level 8 alone", x.get(1, 0), 0);
        duePath("level 8 alone", x, 0, 0, 0, 0, 0, 0, 0, 80);
    }
}
