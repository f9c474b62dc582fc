/** Promises 8 to 10: insert, replace, delete; and the order that promise 14's rules make. */
public final class ChangeTest {
    private static final Answers A = new Answers("ChangeTest");

    public static void main(String[] args) {
        rootsInOrder();
        kindsInOrder();
        uniqueKeys();
        ruleAheadAndBehind();
        ruleByPosition();
        belowTheFirstAsParts();
        belowThePosition();
        insertDoesNotFit();
        insertTakesTheHold();
        replaces();
        deletesTrees();
        deleteMovesViews();
        deleteAll();
        manySegments();
        A.end();
    }

    private static int put(PathCalls x, int view, int kind, long key, long value) {
        x.part(kind, 0, 0);
        return x.insert(view, key, value);
    }

    private static PathCalls withKinds(boolean unique, int... aboves) {
        PathCalls x = new PathCalls();
        for (int above : aboves) {
            x.kind(above, unique);
        }
        x.view();
        x.view();
        return x;
    }

    private static void rootsInOrder() {
        PathCalls x = withKinds(true, 0);
        long[] keys = {0, Long.MAX_VALUE, Long.MIN_VALUE, -1, 1, 1L << 32};
        for (int i = 0; i < keys.length; i++) {
            A.due("8: root", put(x, 1, 1, keys[i], i), 0);
            A.duePosition("8: it is the position", x, 1, 1, 1, 0, 0);
        }
        A.dueValues("8: roots by key", x, 2, 3, 0, 4, 5, 1);
        A.duePosition("8: another view's stays", x, 2, 0, 0, 0, 0);
    }

    private static void kindsInOrder() {
        PathCalls x = withKinds(false, 0, 1, 1, 2, 1);
        put(x, 1, 1, 7, 100);
        A.due("8: kind 5", put(x, 1, 5, 1, 500), 0);
        A.due("8: kind 3", put(x, 1, 3, 9, 300), 0);
        A.due("8: kind 2", put(x, 1, 2, 50, 200), 0);
        A.due("8: kind 4", put(x, 1, 4, 60, 400), 0);
        A.due("8: a lesser key", put(x, 1, 2, 40, 201), 0);
        A.due("8: kind 4 there", put(x, 1, 4, 70, 401), 0);
        A.due("8: a greater key", put(x, 1, 2, 60, 202), 0);
        A.due("8: kind 3, a lesser key", put(x, 1, 3, 8, 301), 0);
        A.due("8: a root ahead", put(x, 1, 1, 6, 101), 0);
        A.due("8: a child of that", put(x, 1, 3, 1, 302), 0);
        A.due("8: a root behind", put(x, 1, 1, 8, 102), 0);
        A.dueValues("8: hierarchic order", x, 101, 302, 100, 201, 401, 200, 400, 202, 301, 300, 500, 102);
    }

    private static void uniqueKeys() {
        PathCalls x = withKinds(true, 0, 1);
        put(x, 1, 1, 1, 1);
        put(x, 1, 2, 5, 2);
        A.due("8: the key is there", put(x, 1, 2, 5, 3), 7);
        A.duePosition("8: the position stays", x, 1, 2, 2, 0, 0);
        A.due("8: the root's key is there", put(x, 2, 1, 1, 4), 7);
        A.duePosition("8: none stays none", x, 2, 0, 0, 0, 0);
        A.due("8: another root", put(x, 1, 1, 2, 5), 0);
        A.due("8: the same key is free there", put(x, 1, 2, 5, 6), 0);
        A.due("8: rule 0 makes no key free", x.rule(2, 0), 1);
        A.due("8: the key is there", put(x, 1, 2, 5, 7), 7);
        A.dueValues("8: unique", x, 1, 2, 5, 6);
    }

    private static void ruleAheadAndBehind() {
        PathCalls x = withKinds(false, 0);
        put(x, 1, 1, 4, 1);
        put(x, 1, 1, 6, 2);
        put(x, 1, 1, 5, 3);
        put(x, 1, 1, 5, 4);
        put(x, 1, 1, 5, 5);
        A.dueValues("14: rule 1", x, 1, 3, 4, 5, 2);
        x.rule(1, 0);
        put(x, 1, 1, 5, 6);
        put(x, 1, 1, 5, 7);
        A.dueValues("14: rule 0", x, 1, 7, 6, 3, 4, 5, 2);
        x.rule(1, 1);
        put(x, 1, 1, 5, 8);
        A.dueValues("14: rule 1 again", x, 1, 7, 6, 3, 4, 5, 8, 2);
    }

    private static void ruleByPosition() {
        PathCalls x = withKinds(false, 0, 1);
        put(x, 1, 1, 5, 1);
        put(x, 1, 1, 5, 2);
        put(x, 1, 2, 5, 20);
        put(x, 1, 1, 5, 3);
        put(x, 1, 1, 9, 4);
        x.rule(1, 2);
        A.due("14: no position", put(x, 2, 1, 5, 5), 0);
        A.dueValues("14: ahead of all of them", x, 5, 1, 2, 20, 3, 4);
        A.due("14: the position has another key", put(x, 1, 1, 5, 6), 0);
        A.dueValues("14: ahead of all of them", x, 6, 5, 1, 2, 20, 3, 4);
        x.part(1, 1, 5);
        x.code(1, 1);
        x.get(1, 0);
        A.due("14: the position is the last of them", put(x, 1, 1, 5, 7), 0);
        A.dueValues("14: just ahead of it", x, 6, 5, 1, 2, 20, 7, 3, 4);
        A.due("14: the new one is the position", put(x, 1, 1, 5, 8), 0);
        A.dueValues("14: just ahead of that", x, 6, 5, 1, 2, 20, 8, 7, 3, 4);
        x.part(2, 0, 0);
        x.get(1, 0);
        A.due("14: the position lies in one of them", put(x, 1, 1, 5, 9), 0);
        A.dueValues("14: ahead of all of them", x, 9, 6, 5, 1, 2, 20, 8, 7, 3, 4);
        x.part(1, 1, 9);
        x.get(1, 0);
        A.due("14: a key without an equal", put(x, 1, 1, 7, 10), 0);
        A.dueValues("14: by its key", x, 9, 6, 5, 1, 2, 20, 8, 7, 3, 10, 4);
    }

    private static void belowTheFirstAsParts() {
        PathCalls x = withKinds(false, 0, 1, 2);
        put(x, 1, 1, 1, 1);
        put(x, 1, 1, 2, 2);
        put(x, 1, 1, 3, 3);
        x.part(1, 2, 1);
        x.part(2, 1, 999);
        A.due("8: below the first root > 1", x.insert(2, 7, 20), 0);
        A.duePosition("8: it is the position", x, 2, 2, 2, 0, 0);
        x.part(1, 0, 0);
        x.code(1, 1);
        x.part(2, 0, 0);
        x.code(2, 15);
        A.due("8: below the last root", x.insert(2, 7, 30), 0);
        A.duePosition("8: codes of the last part don't matter", x, 2, 2, 2, 0, 0);
        x.part(2, 1, 7);
        x.part(3, 0, 0);
        A.due("8: below the first 2 of key 7", x.insert(2, 1, 21), 0);
        x.part(1, 1, 3);
        x.part(2, 1, 7);
        x.part(3, 0, 0);
        A.due("8: three parts", x.insert(2, 1, 31), 0);
        x.part(1, 0, 0);
        x.code(1, 2);
        x.part(2, 0, 0);
        A.due("8: below the place", x.insert(1, 1, 29), 0);
        x.part(1, 1, 8);
        x.part(2, 0, 0);
        A.due("8: there is none such", x.insert(1, 1, 99), 1);
        x.part(1, 1, 1);
        x.part(2, 0, 0);
        x.part(3, 0, 0);
        A.due("8: root 1 has no 2", x.insert(1, 1, 99), 1);
        A.duePosition("8: the position stays", x, 1, 2, 2, 0, 0);
        A.dueValues("8: below the first as parts", x, 1, 2, 20, 21, 3, 29, 30, 31);
        A.due("8: an insert is no get", x.segment(1), 0);
    }

    private static void belowThePosition() {
        PathCalls x = withKinds(false, 0, 1, 2, 1);
        A.due("8: no position", put(x, 1, 2, 1, 1), 1);
        put(x, 1, 1, 1, 1);
        A.due("8: it lies in no 2", put(x, 1, 3, 1, 1), 1);
        A.due("8: below the position", put(x, 1, 2, 5, 2), 0);
        A.due("8: below the position", put(x, 1, 3, 5, 3), 0);
        A.due("8: below the 2 that it lies in", put(x, 1, 3, 6, 4), 0);
        A.due("8: below the root that it lies in", put(x, 1, 4, 6, 5), 0);
        A.due("8: that lies in no 2", put(x, 1, 3, 6, 6), 1);
        A.due("8: a root, wherever", put(x, 1, 1, 0, 7), 0);
        A.due("8: another view has no position", put(x, 2, 2, 6, 6), 1);
        A.dueValues("8: below the position", x, 7, 1, 2, 3, 4, 5);
    }

    private static void insertDoesNotFit() {
        PathCalls x = withKinds(false, 0, 1, 2, 1);
        A.due("8: without parts", x.insert(1, 1, 1), 6);
        put(x, 1, 1, 1, 1);
        int[][] unfit = {{1, 1}, {2, 1}, {1, 3}, {4, 2}, {2, 4}, {3, 2}, {2, 2}};
        for (int[] kinds : unfit) {
            x.part(kinds[0], 0, 0);
            x.part(kinds[1], 0, 0);
            A.due("8: " + kinds[0] + ", " + kinds[1] + " don't fit", x.insert(1, 1, 1), 6);
        }
        x.part(4, 0, 0);
        x.part(2, 0, 0);
        x.part(3, 0, 0);
        A.due("8: the first two don't fit", x.insert(1, 1, 1), 6);
        A.due("8: no such view", x.insert(3, 1, 1), -1);
        A.due("8: no such view", x.insert(0, 1, 1), -1);
        A.dueValues("8: nothing is inserted", x, 1);
    }

    private static void insertTakesTheHold() {
        PathCalls x = withKinds(true, 0, 1);
        put(x, 1, 1, 1, 1);
        x.get(2, 4);
        x.get(1, 4);
        put(x, 1, 1, 2, 2);
        A.due("8: the hold goes", x.position(1, 3), 0);
        A.due("8: other views' holds stay", x.position(2, 3), 1);
        A.due("8: no view", x.insert(9, 1, 1), -1);
        A.due("8: no view, no change", x.position(2, 3), 1);
        x.get(1, 4);
        A.due("8: the key is there", put(x, 1, 1, 2, 2), 7);
        A.due("8: the hold goes by 7", x.position(1, 3), 0);
        x.get(1, 4);
        A.due("8: without parts", x.insert(1, 2, 2), 6);
        A.due("8: the hold goes by 6", x.position(1, 3), 0);
    }

    private static void replaces() {
        PathCalls x = withKinds(true, 0);
        A.due("9: no position", x.replace(1, 5), 8);
        put(x, 1, 1, 1, 1);
        put(x, 1, 1, 2, 2);
        A.due("9: an insert is no hold", x.replace(1, 5), 8);
        A.due("9: no view", x.replace(0, 5), -1);
        A.due("9: no view", x.replace(3, 5), -1);
        x.get(1, 0);
        A.due("9: a get without a hold", x.replace(1, 5), 8);
        x.get(1, 4);
        A.due("9: not the other view's", x.replace(2, 5), 8);
        A.due("9: with a hold", x.replace(1, -7), 0);
        A.duePosition("9: it goes", x, 1, 1, 1, 1, 0);
        A.due("9: once only", x.replace(1, 6), 8);
        A.dueValues("9: replaced", x, -7, 2);
        A.due("9: the key stays", x.order(0, 2), 1);
        x.get(2, 0);
        A.due("9: found with the new value", x.segment(1), -7);
    }

    private static void deletesTrees() {
        PathCalls x = withKinds(true, 0, 1, 2, 1);
        int[][] rows = {{1, 1}, {2, 1}, {3, 1}, {3, 2}, {2, 2}, {4, 1}, {1, 2}, {2, 1}};
        for (int i = 0; i < rows.length; i++) {
            put(x, 1, rows[i][0], rows[i][1], i);
        }
        A.due("10: no view", x.delete(0), -1);
        A.due("10: no view", x.delete(3), -1);
        A.due("10: no hold", x.delete(1), 8);
        x.part(2, 0, 0);
        x.get(1, 4);
        A.due("10: with a hold", x.delete(1), 0);
        A.dueValues("10: with all that lies in it", x, 0, 4, 5, 6, 7);
        A.duePosition("10: on the one ahead", x, 1, 1, 1, 0, 0);
        A.due("10: once only", x.delete(1), 8);
        A.due("10: next is the one behind", x.get(1, 1), 0);
        A.due("10: next is the one behind", x.segment(2), 4);
        x.part(1, 1, 2);
        x.get(1, 4);
        A.due("10: the last tree", x.delete(1), 0);
        A.dueValues("10: the last tree", x, 0, 4, 5);
        A.duePosition("10: a leaf of another kind is ahead", x, 1, 4, 2, 0, 0);
        A.due("10: a key is free again", put(x, 1, 1, 2, 9), 0);
    }

    private static void deleteMovesViews() {
        PathCalls x = withKinds(true, 0, 1);
        for (int view = 3; view <= 5; view++) {
            x.view();
        }
        put(x, 1, 1, 1, 10);
        put(x, 1, 2, 1, 11);
        put(x, 1, 1, 2, 20);
        put(x, 1, 2, 1, 21);
        put(x, 1, 1, 3, 30);
        x.part(1, 1, 2);
        x.get(1, 4);
        x.part(1, 1, 2);
        x.part(2, 0, 0);
        x.get(2, 4);
        x.part(1, 1, 3);
        x.get(3, 4);
        x.part(1, 1, 2);
        x.get(4, 0);
        x.part(1, 0, 0);
        x.insert(4, 4, 40);
        x.part(1, 1, 1);
        x.get(5, 0);
        A.due("10: delete", x.delete(1), 0);
        A.duePosition("10: its own view", x, 1, 2, 2, 0, 0);
        A.duePosition("10: a view that lay in it", x, 2, 2, 2, 0, 0);
        A.duePosition("10: a view elsewhere keeps its hold", x, 3, 1, 1, 1, 1);
        A.duePosition("10: a parentage alone", x, 4, 1, 1, 0, 0);
        A.duePosition("10: a view ahead", x, 5, 1, 1, 1, 0);
        A.due("10: no hold", x.replace(2, 1), 8);
        A.due("10: no parentage", x.get(4, 2), 5);
        A.due("10: the hold elsewhere", x.replace(3, 31), 0);
        A.due("10: next, on a lesser level", x.get(2, 1), 3);
        A.due("10: the one behind", x.segment(1), 31);
        A.dueValues("10: what stays", x, 10, 11, 31, 40);
    }

    private static void deleteAll() {
        PathCalls x = withKinds(true, 0, 1);
        put(x, 1, 1, 1, 1);
        put(x, 1, 2, 1, 2);
        x.get(1, 4);
        x.get(2, 1);
        x.get(2, 5);
        A.due("10: delete", x.delete(1), 0);
        A.dueValues("10: nothing is left", x);
        A.duePosition("10: ahead of all", x, 1, 0, 0, 0, 0);
        A.duePosition("10: ahead of all", x, 2, 0, 0, 0, 0);
        put(x, 1, 1, 5, 3);
        A.due("10: next from ahead of all", x.get(2, 1), 0);
    }

    private static void manySegments() {
        PathCalls x = new PathCalls();
        x.kind(0, false);
        x.view();
        for (int i = 1; i <= 255; i++) {
            A.due("8: as many as 512 calls can make", put(x, 1, 1, -i, i), 0);
        }
        A.due("13: all are there", x.count(), 255);
        A.due("12: the first", x.order(0, 3), 255);
        A.due("12: the last", x.order(254, 3), 1);
    }
}
