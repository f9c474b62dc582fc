/** Edges that promises 8 to 10 name: insert, replace, delete. */
public final class EdgesOfChangeTest extends Bases {
    private static final Answers A = new Answers("EdgesOfChangeTest");

    public static void main(String[] args) {
        lastPartsRelation();
        lastPartsCodes();
        belowTheFirst();
        belowAsCodesSay();
        otherCodesAhead();
        kindDirectlyAbove();
        belowThePosition();
        belowWhatItLiesIn();
        rootBelowNone();
        noneSuchByParts();
        noneSuchByPosition();
        insertPartsDoNotFit();
        insertWithoutParts();
        rootWithMoreParts();
        keyIsThere();
        insertIsThePosition();
        insertTakesTheHold();
        insertMovesNoView();
        insertOnLevelEight();
        replaceWithHold();
        replaceWithoutHold();
        replaceTakesTheHold();
        replaceOfOneAlone();
        deleteWithAllInIt();
        deleteWithoutHold();
        deleteTakesTheHold();
        deleteGoesAhead();
        deleteGoesToNone();
        deleteTakesHoldsInIt();
        deleteLeavesOtherViews();
        deleteTakesParentages();
        deleteLeavesOtherParentages();
        deleteOfAll();
        A.end();
    }

    private static void lastPartsRelation() {
        A.says("Promise 8", "A segment of the last part's kind (its relation .. [doesn't] matter) with a key");
        for (int op = 0; op <= 6; op++) {
            PathCalls x = tree();
            x.part(1, op, 5);
            A.due("a root, relation " + op, x.insert(2, 5, 55), 0);
            A.due("its key is the one of the call", x.order(6, 2), 5);
            x.part(2, op, 5);
            A.due("below the position, relation " + op, x.insert(2, -5, 56), 0);
            x.part(1, EQUAL, 11);
            x.part(2, op, 5);
            A.due("behind another part, relation " + op, x.insert(2, 500, 57), 0);
            A.dueValues("relation " + op, x, 10, 20, 30, 40, 50, 60, 55, 56, 70, 80, 90, 100, 110, 57);
        }
    }

    private static void lastPartsCodes() {
        A.says("Promise 8", "A segment of the last part's kind (its .. codes don't matter)");
        for (int codes = 0; codes <= 15; codes++) {
            PathCalls x = tree();
            to(x, 2, UNIQUE, 7);
            coded(x, 1, ANY, 0, codes);
            A.due("a root, codes " + codes, x.insert(2, 5, 55), 0);
            A.due("the parentage stays", x.within(2), 3);
            A.due("the path stays", x.segment(1), 70);
            x.part(1, EQUAL, 11);
            coded(x, 2, ANY, 0, codes);
            A.due("behind another part, codes " + codes, x.insert(2, 5, 56), 0);
            A.due("the parentage stays", x.within(2), 3);
            A.due("the path stays", x.segment(2), 0);
            A.dueValues("codes " + codes, x, 10, 20, 30, 40, 50, 60, 55, 70, 80, 90, 100, 110, 56);
        }
    }

    private static void belowTheFirst() {
        A.says("Promise 8", "comes below the first one in hierarchic order that is as the parts ahead of it say");
        PathCalls x = tree();
        parts(x, 1, 2);
        A.due("wherever the position is", x.insert(1, 99, 1), 0);
        x.part(1, GREATER, 1);
        parts(x, 2);
        A.due("the first root > 1", x.insert(2, 99, 2), 0);
        parts(x, 2, 4);
        A.due("the first 2 of all", x.insert(1, 99, 3), 0);
        x.part(1, EQUAL, 7);
        parts(x, 2, 4);
        A.due("the first 2 in root 7", x.insert(2, 99, 4), 0);
        A.dueValues("below the first", x, 10, 20, 30, 40, 3, 50, 1, 60, 70, 80, 90, 4, 2, 100, 110);
    }

    private static void belowAsCodesSay() {
        A.says("Promise 8", "the first one .. that is as the parts ahead of it say [with LAST, PLACE]");
        PathCalls x = tree();
        coded(x, 1, ANY, 0, LAST);
        parts(x, 2);
        A.due("LAST", x.insert(2, 1, 1), 0);
        coded(x, 1, EQUAL, 1, 0);
        coded(x, 2, ANY, 0, LAST);
        parts(x, 4);
        A.due("LAST on level 2", x.insert(2, 1, 2), 0);
        to(x, 2, UNIQUE, 9);
        coded(x, 1, ANY, 0, PLACE);
        parts(x, 2);
        A.due("PLACE, two levels up", x.insert(2, 1, 3), 0);
        A.dueValues("by codes", x, 10, 20, 30, 40, 50, 2, 60, 70, 3, 80, 90, 100, 110, 1);
        coded(x, 1, EQUAL, 1, PLACE);
        parts(x, 2);
        A.due("PLACE, with another key", x.insert(2, 1, 4), 1);
    }

    private static void otherCodesAhead() {
        A.says("Promise 8", "It is the position then [PARENTAGE and PATH are get's]");
        PathCalls x = tree();
        coded(x, 1, EQUAL, 7, PARENTAGE + PATH);
        parts(x, 2);
        A.due("insert", x.insert(2, 99, 99), 0);
        A.duePosition("no parentage comes of it", x, 2, 2, 2, 0, 0);
        for (int level = 1; level <= 3; level++) {
            A.due("no path comes of it: segment(" + level + ")", x.segment(level), 0);
        }
    }

    private static void kindDirectlyAbove() {
        A.says("Promise 8", "(which must end with the kind directly above)");
        PathCalls x = tree();
        parts(x, 1, 4);
        A.due("a level left out at the end", x.insert(1, 1, 1), 6);
        x.kind(4, true);
        parts(x, 1, 2, 5);
        A.due("a level left out at the end of three", x.insert(1, 1, 1), 6);
        parts(x, 1, 4, 5);
        A.due("a level left out ahead of that", x.insert(1, 1, 1), 0);
        parts(x, 2, 4);
        A.due("not from the root on", x.insert(1, 1, 2), 0);
        A.due("two came", x.count(), 13);
    }

    private static void belowThePosition() {
        A.says("Promise 8", "with that part alone below the one of the kind directly above that the position is");
        PathCalls x = tree();
        to(x, 2, UNIQUE, 7);
        A.due("in root 7", put(x, 2, 2, 1, 1), 0);
        to(x, 2, UNIQUE, 5);
        A.due("in the 2 of key 5", put(x, 2, 4, 1, 2), 0);
        A.dueValues("in the position", x, 10, 20, 30, 40, 50, 2, 60, 70, 1, 80, 90, 100, 110);
    }

    private static void belowWhatItLiesIn() {
        A.says("Promise 8", "with that part alone below the one of the kind directly above that the position .. lies in");
        PathCalls x = tree();
        to(x, 2, UNIQUE, 4);
        A.due("a twin of the position", put(x, 2, 4, 1, 1), 0);
        A.due("a 3, the position in a 2", put(x, 2, 3, 1, 2), 0);
        A.due("a 2, the position a 3", put(x, 2, 2, 1, 3), 0);
        A.dueValues("in what the position lies in", x, 10, 3, 20, 1, 30, 40, 50, 2, 60, 70, 80, 90, 100, 110);
    }

    private static void rootBelowNone() {
        A.says("Promise 8", "(a root: below none)");
        PathCalls x = tree();
        A.due("without a position", put(x, 2, 1, 0, 1), 0);
        to(x, 2, UNIQUE, 9);
        A.due("from level 3", put(x, 2, 1, 99, 2), 0);
        A.due("on level 1", x.position(2, 1), 1);
        A.dueValues("roots", x, 1, 10, 20, 30, 40, 50, 60, 70, 80, 90, 100, 110, 2);
        A.due("into an empty base", put(ofKinds(true, 0), 1, 1, 0, 0), 0);
    }

    private static void noneSuchByParts() {
        A.says("Promise 8", "1 (there is none such) [as the parts ahead say]");
        PathCalls x = tree();
        x.part(1, EQUAL, 2);
        parts(x, 2);
        A.due("no such key", x.insert(1, 1, 1), 1);
        x.part(1, EQUAL, 11);
        parts(x, 2, 4);
        A.due("no 2 in that root", x.insert(1, 1, 1), 1);
        A.dueState("all stays", x, tree());
        PathCalls y = ofKinds(true, 0, 1);
        parts(y, 1, 2);
        A.due("in an empty base", y.insert(1, 1, 1), 1);
    }

    private static void noneSuchByPosition() {
        A.says("Promise 8", "1 (there is none such) [that the position is, or lies in]");
        PathCalls x = tree();
        A.due("no position", put(x, 2, 2, 1, 1), 1);
        A.due("the position is a root, the kind above is 2", put(x, 1, 4, 1, 1), 1);
        A.dueState("all stays", x, tree());
        to(x, 2, UNIQUE, 6);
        A.due("the position is a 3 behind some 2", put(x, 2, 4, 1, 1), 1);
        x.part(3, GREATER, 10);
        A.due("to the end", x.get(2, NEXT), 2);
        A.due("no position at the end", put(x, 2, 2, 1, 1), 1);
        A.due("none came", x.count(), 11);
    }

    private static void insertPartsDoNotFit() {
        A.says("Promise 8", "Statuses .. 6 [parts don't fit]");
        int[][] unfit = {{2, 3}, {3, 2}, {4, 2}, {2, 2}, {3, 4}, {3, 2, 4}, {2, 2, 4}, {1, 1, 2}, {1, 2, 2},
            {2, 1, 2}, {1, 3, 4}};
        PathCalls x = tree();
        for (int[] kinds : unfit) {
            parts(x, kinds);
            A.due("parts that end with " + kinds[kinds.length - 1], x.insert(1, 1, 1), 6);
        }
        A.dueState("all stays", x, tree());
        x.part(1, EQUAL, 99);
        parts(x, 4);
        A.due("they don't fit, and there is none such", x.insert(1, 1, 1), 6);
    }

    private static void insertWithoutParts() {
        A.says("Promise 8", "6 (also without parts)");
        PathCalls x = tree();
        A.due("with a position", x.insert(1, 1, 1), 6);
        A.due("without a position", x.insert(2, 1, 1), 6);
        A.dueState("all stays", x, tree());
        parts(x, 1);
        x.insert(1, 99, 99);
        A.due("parts that are gone", x.insert(1, 100, 100), 6);
        A.due("without kinds", ofKinds(true).insert(1, 1, 1), 6);
    }

    private static void rootWithMoreParts() {
        A.says("Promise 8", "6 (.. or for a root with more than one)");
        int[][] unfit = {{1, 1}, {2, 1}, {4, 1}, {1, 2, 1}, {1, 1, 1}};
        PathCalls x = tree();
        for (int[] kinds : unfit) {
            parts(x, kinds);
            A.due(kinds.length + " parts from " + kinds[0], x.insert(1, 99, 99), 6);
        }
        A.dueState("all stays", x, tree());
    }

    private static PathCalls uniqueTree() {
        PathCalls x = ofKinds(true, 0, 1);
        put(x, 1, 1, 1, 10);
        put(x, 1, 2, 1, 11);
        put(x, 1, 2, 2, 12);
        put(x, 1, 1, 2, 20);
        put(x, 1, 2, 3, 23);
        return x;
    }

    private static void keyIsThere() {
        A.says("Promise 8", "Statuses .. 7 [the key is there]");
        PathCalls x = uniqueTree();
        A.due("a root's", put(x, 2, 1, 2, 1), 7);
        x.part(1, EQUAL, 1);
        parts(x, 2);
        A.due("the last of the twins'", x.insert(2, 2, 1), 7);
        x.part(1, EQUAL, 1);
        parts(x, 2);
        A.due("the first of the twins'", x.insert(2, 1, 1), 7);
        A.due("by the position", put(x, 1, 2, 3, 1), 7);
        A.dueState("all stays", x, uniqueTree());
        x.part(1, EQUAL, 1);
        parts(x, 2);
        A.due("that of one in another root", x.insert(2, 3, 1), 0);
        A.due("that of one of another kind", put(x, 1, 2, 1, 2), 0);
        x.part(1, EQUAL, 9);
        parts(x, 2);
        A.due("none such", x.insert(2, 1, 1), 1);
        PathCalls y = uniqueTree();
        y.part(1, EQUAL, 1);
        y.get(1, HOLD);
        y.delete(1);
        A.due("that of one that is deleted", put(y, 1, 1, 1, 1), 0);
    }

    private static void insertIsThePosition() {
        A.says("Promise 8", "It is the position then");
        PathCalls x = tree();
        to(x, 2, UNIQUE, 7);
        put(x, 2, 2, 1, 1);
        A.duePosition("the parentage stays", x, 2, 2, 2, 1, 0);
        A.due("the parentage has one more", x.within(2), 4);
        A.due("NEXT is the one behind", x.get(2, NEXT), 0);
        A.due("NEXT is the one behind", x.segment(2), 80);
        put(x, 2, 1, 12, 120);
        A.due("the new one", valueAt(x, 2), 120);
        A.due("another view's stays", valueAt(x, 1), 110);
    }

    private static void insertTakesTheHold() {
        A.says("Promise 8", "The hold goes");
        int[][] kindsAndStatuses = {{1, 0}, {3, 1}, {2, 6}};
        for (int[] row : kindsAndStatuses) {
            PathCalls x = ofKinds(true, 0, 1, 2);
            put(x, 1, 1, 1, 1);
            x.get(1, HOLD);
            x.get(2, HOLD);
            parts(x, row[0]);
            if (row[1] == 6) {
                parts(x, 1);
            }
            A.due("status " + row[1], x.insert(1, 5, 5), row[1]);
            A.due("gone by " + row[1], x.position(1, 3), 0);
            A.due("no replace then", x.replace(1, 9), 8);
            A.due("another view's stays", x.replace(2, 9), 0);
        }
        PathCalls y = uniqueTree();
        y.get(1, HOLD);
        A.due("status 7", put(y, 1, 1, 1, 1), 7);
        A.due("gone by 7", y.position(1, 3), 0);
    }

    private static void insertMovesNoView() {
        A.says("Promise 8", "It is the position then [of that view]");
        PathCalls x = tree();
        to(x, 2, HOLD, 8);
        put(x, 1, 1, 0, 1);
        x.part(1, EQUAL, 7);
        parts(x, 2);
        x.insert(1, 0, 2);
        A.duePosition("ahead of another's position", x, 2, 2, 2, 2, 1);
        A.due("what lies in its parentage", x.within(2), 1);
        A.due("its hold is on the same one", x.replace(2, 88), 0);
        A.dueValues("ahead of another's position", x, 1, 10, 20, 30, 40, 50, 60, 70, 2, 88, 90, 100, 110);
        A.due("NEXT is what was behind it", x.get(2, NEXT), 0);
        A.due("NEXT is what was behind it", x.segment(3), 90);
    }

    private static void insertOnLevelEight() {
        A.says("Promise 8, Terms", "PARTS are collected (at most 8), (levels 1 .. 8)");
        PathCalls x = ofKinds(true, 0, 1, 2, 3, 4, 5, 6, 7);
        for (int kind = 1; kind <= 8; kind++) {
            for (int part = 1; part <= kind; part++) {
                x.part(part, EQUAL, part);
            }
            A.due(kind + " parts", x.insert(2, kind, kind), 0);
            A.due("on level " + kind, x.position(2, 1), kind);
        }
        A.dueValues("eight levels", x, 1, 2, 3, 4, 5, 6, 7, 8);
    }

    private static void replaceWithHold() {
        A.says("Promise 9", "The position's value becomes v, if there is a hold");
        long[] values = {0, -1, Long.MAX_VALUE, Long.MIN_VALUE, 1L << 32};
        PathCalls x = tree();
        for (long value : values) {
            to(x, 2, HOLD, 8);
            A.due("replace(2, " + value + ")", x.replace(2, value), 0);
            A.duePosition("the position stays", x, 2, 2, 2, 2, 0);
            to(x, 1, UNIQUE, 8);
            A.due("its value", x.segment(2), value);
            A.due("its lowest 32 bits", x.order(7, 3), (int) value);
            A.due("its key stays", x.order(7, 2), 8);
        }
        A.due("none came or went", x.count(), 11);
    }

    private static void replaceWithoutHold() {
        A.says("Promise 9", "replace: 8 [no hold]");
        PathCalls x = tree();
        A.due("no position", x.replace(2, 1), 8);
        A.due("behind an insert", x.replace(1, 1), 8);
        A.dueState("all stays", x, tree());
        int[] calls = {UNIQUE, NEXT, WITHIN};
        for (int call : calls) {
            x.get(2, call);
            A.due("behind get without a hold, " + call, x.replace(2, 1), 8);
        }
        A.dueValues("all stays", x, 10, 20, 30, 40, 50, 60, 70, 80, 90, 100, 110);
    }

    private static void replaceTakesTheHold() {
        A.says("Promise 9", "if there is a hold, which goes");
        PathCalls x = tree();
        to(x, 1, HOLD, 8);
        to(x, 2, HOLD, 8);
        A.due("the first", x.replace(2, 1), 0);
        A.due("the hold went", x.position(2, 3), 0);
        A.due("the second", x.replace(2, 2), 8);
        A.due("nor a delete", x.delete(2), 8);
        A.due("the value of the first", x.order(7, 3), 1);
        A.due("another view's on the same one stays", x.position(1, 3), 1);
        A.due("another view's on the same one stays", x.replace(1, 3), 0);
        A.due("the value of that", x.order(7, 3), 3);
    }

    private static void replaceOfOneAlone() {
        A.says("Promise 9", "The position's value becomes v [no other's]");
        PathCalls x = ofKinds(false, 0);
        put(x, 1, 1, 5, 1);
        put(x, 1, 1, 5, 2);
        put(x, 1, 1, 5, 3);
        x.get(2, NEXT);
        x.get(2, NEXT + HOLD);
        x.replace(2, 9);
        A.dueValues("of those of one key", x, 1, 9, 3);
    }

    private static void deleteWithAllInIt() {
        A.says("Promise 10", "The position, with all that lies in it, goes");
        int[][] keysAndValues = {
            {1, 70, 80, 90, 100, 110}, {2, 10, 50, 60, 70, 80, 90, 100, 110},
            {3, 10, 20, 40, 50, 60, 70, 80, 90, 100, 110}, {5, 10, 20, 30, 40, 60, 70, 80, 90, 100, 110},
            {7, 10, 20, 30, 40, 50, 60, 110}, {11, 10, 20, 30, 40, 50, 60, 70, 80, 90, 100}};
        for (int[] row : keysAndValues) {
            PathCalls x = tree();
            to(x, 2, HOLD, row[0]);
            A.due("delete of key " + row[0], x.delete(2), 0);
            int[] values = new int[row.length - 1];
            System.arraycopy(row, 1, values, 0, values.length);
            A.dueValues("delete of key " + row[0], x, values);
        }
    }

    private static void deleteWithoutHold() {
        A.says("Promise 10", "delete: 8 [no hold]");
        PathCalls x = tree();
        A.due("no position", x.delete(2), 8);
        A.due("behind an insert", x.delete(1), 8);
        A.dueState("all stays", x, tree());
        int[] calls = {UNIQUE, NEXT, WITHIN};
        for (int call : calls) {
            x.get(2, call);
            A.due("behind get without a hold, " + call, x.delete(2), 8);
        }
        A.due("all stays", x.count(), 11);
    }

    private static void deleteTakesTheHold() {
        A.says("Promise 10", "if there is a hold, which goes");
        PathCalls x = tree();
        to(x, 2, HOLD, 8);
        A.due("the first", x.delete(2), 0);
        A.due("the hold went", x.position(2, 3), 0);
        A.due("the second", x.delete(2), 8);
        A.due("nor a replace", x.replace(2, 1), 8);
        A.due("two went", x.count(), 9);
    }

    private static void deleteGoesAhead() {
        A.says("Promise 10", "Of all views that had such a one as their position it is the one ahead in hierarchic order"
            + " then");
        int[][] keysAndValues = {{2, 10}, {3, 20}, {4, 30}, {5, 40}, {6, 50}, {7, 60}, {8, 70}, {11, 100}};
        for (int[] row : keysAndValues) {
            PathCalls x = tree();
            x.view();
            to(x, 3, UNIQUE, row[0]);
            to(x, 2, HOLD, row[0]);
            x.delete(2);
            A.due("its own view, key " + row[0], valueAt(x, 2), row[1]);
            A.due("another one there, key " + row[0], valueAt(x, 3), row[1]);
        }
        PathCalls y = tree();
        to(y, 1, UNIQUE, 9);
        to(y, 2, HOLD, 7);
        y.delete(2);
        A.due("a view two levels down in it", valueAt(y, 1), 60);
        A.due("NEXT is what was behind", y.get(2, NEXT), 3);
        A.due("NEXT is what was behind", y.segment(1), 110);
    }

    private static void deleteGoesToNone() {
        A.says("Promise 10", "(none: ahead of all)");
        PathCalls x = tree();
        to(x, 1, UNIQUE, 4);
        to(x, 2, HOLD, 1);
        x.delete(2);
        A.duePosition("its own view", x, 2, 0, 0, 0, 0);
        A.duePosition("a view that lay in it", x, 1, 0, 0, 0, 0);
        A.due("NEXT is the first of all", x.get(1, NEXT), 0);
        A.due("NEXT is the first of all", x.segment(1), 70);
    }

    private static void deleteTakesHoldsInIt() {
        A.says("Promise 10", "their holds go");
        PathCalls x = tree();
        x.view();
        to(x, 1, HOLD, 7);
        to(x, 3, HOLD, 9);
        to(x, 2, HOLD, 7);
        x.delete(2);
        A.due("on the same one", x.position(1, 3), 0);
        A.due("on one in it", x.position(3, 3), 0);
        A.due("no replace then", x.replace(1, 1), 8);
        A.due("no delete then", x.delete(3), 8);
        A.due("the one ahead stays", x.order(5, 3), 60);
    }

    private static void deleteLeavesOtherViews() {
        A.says("Promise 10", "Of all views that had such a one [no others]");
        int[] keys = {1, 2, 5, 6, 11};
        for (int key : keys) {
            PathCalls x = tree();
            to(x, 1, HOLD, key);
            to(x, 2, HOLD, 7);
            x.delete(2);
            A.due("a hold on key " + key, x.position(1, 3), 1);
            A.due("its parentage", x.within(1), key == 1 ? 5 : key == 2 ? 2 : 0);
            A.due("a hold on key " + key, x.replace(1, 9), 0);
            A.due("the position", valueAt(x, 1), 9);
        }
        PathCalls y = tree();
        to(y, 1, HOLD, 7);
        to(y, 2, HOLD, 8);
        y.delete(2);
        A.due("a hold on what it lay in", y.replace(1, 7), 0);
        PathCalls z = tree();
        A.due("a new view", z.view(), 3);
        to(z, 2, HOLD, 1);
        z.delete(2);
        A.duePosition("a view without a position", z, 3, 0, 0, 0, 0);
    }

    private static void deleteTakesParentages() {
        A.says("Promise 10", "parentages that were such are none");
        PathCalls x = tree();
        x.view();
        x.view();
        to(x, 1, UNIQUE, 7);
        to(x, 3, UNIQUE, 8);
        to(x, 4, UNIQUE, 7);
        put(x, 4, 1, 99, 99);
        to(x, 2, HOLD, 7);
        x.delete(2);
        for (int view = 1; view <= 4; view++) {
            A.due("view " + view, x.position(view, 2), 0);
            A.due("view " + view, x.within(view), -1);
            A.due("view " + view, x.get(view, WITHIN), 5);
        }
        A.due("a position elsewhere stays", valueAt(x, 4), 99);
    }

    private static void deleteLeavesOtherParentages() {
        A.says("Promise 10", "parentages that were such [no others]");
        PathCalls x = tree();
        coded(x, 1, EQUAL, 7, PARENTAGE);
        parts(x, 3);
        x.get(1, UNIQUE);
        coded(x, 1, EQUAL, 7, PARENTAGE);
        parts(x, 2);
        x.get(2, HOLD);
        x.delete(2);
        A.duePosition("what it lay in", x, 2, 1, 1, 1, 0);
        A.due("has two less", x.within(2), 1);
        A.duePosition("that of another view", x, 1, 3, 2, 1, 0);
        A.due("NEXT WITHIN goes on", x.get(2, WITHIN), 0);
        A.due("with what was behind", x.segment(2), 100);
    }

    private static void deleteOfAll() {
        A.says("Promise 10", "with all that lies in it, goes [until there is none]");
        PathCalls x = tree();
        int[] roots = {7, 11, 1};
        for (int key : roots) {
            to(x, 2, HOLD, key);
            A.due("root " + key, x.delete(2), 0);
        }
        A.dueValues("none is there", x);
        A.duePosition("view 1", x, 1, 0, 0, 0, 0);
        A.duePosition("view 2", x, 2, 0, 0, 0, 0);
        A.due("UNIQUE", x.get(2, UNIQUE), 1);
        A.due("NEXT", x.get(2, NEXT), 2);
        A.due("a new root", put(x, 2, 1, 1, 1), 0);
        A.due("a segment in it", put(x, 2, 2, 1, 2), 0);
        A.dueValues("two again", x, 1, 2);
    }
}
