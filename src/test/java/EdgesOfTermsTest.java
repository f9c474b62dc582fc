/** Edges that the sections "What it is" and "Terms" name; they bind every promise. */
public final class EdgesOfTermsTest extends Bases {
    private static final Answers A = new Answers("EdgesOfTermsTest");

    public static void main(String[] args) {
        calls512();
        rootsHaveNoParent();
        rootsAreAllTwins();
        aheadOfChildren();
        childrenByKind();
        twinsByKey();
        childrenAheadOfNextTwin();
        uniqueKeysDiffer();
        ruleAhead();
        ruleBehind();
        ruleAtPosition();
        ruleAheadOfAll();
        partsGo();
        partsStay();
        relations();
        codesAdded();
        partsFit();
        lastPartsKind();
        isOrLiesIn();
        lastOfTwins();
        lastOfThoseThatHave();
        placeIs();
        placeLiesIn();
        placeOfNone();
        newViews();
        noSuchView();
        A.end();
    }

    private static void calls512() {
        A.says("What it is", "at most 512 calls after it has been made");
        PathCalls x = new PathCalls();
        x.kind(0, true);
        x.view();
        for (int i = 1; i <= 254; i++) {
            A.due("insert " + i, put(x, 1, 1, -i, i), 0);
        }
        A.due("call 511", x.order(253, 3), 1);
        A.due("call 512", x.count(), 254);
        PathCalls y = new PathCalls();
        y.kind(0, false);
        y.view();
        for (int i = 1; i <= 254; i++) {
            put(y, 1, 1, i, i);
        }
        A.due("call 511", y.part(1, ANY, 0), 1);
        A.due("call 512", y.insert(1, 0, 0), 0);
    }

    private static void rootsHaveNoParent() {
        A.says("Terms, promise 8", "roots have no PARENT");
        PathCalls x = tree();
        to(x, 2, UNIQUE, 3);
        A.due("a root from a position three levels down", put(x, 2, 1, 12, 120), 0);
        A.due("it is on level 1", x.position(2, 1), 1);
        A.due("it is behind all", x.order(11, 3), 120);
        to(x, 2, UNIQUE, 1);
        A.due("it lies in no other root", x.within(2), 5);
    }

    private static void rootsAreAllTwins() {
        A.says("Terms, promises 6 and 8", "TWINS are segments of one kind and parent (roots: all)");
        PathCalls x = tree();
        coded(x, 1, LESSER, 11, LAST);
        x.get(2, UNIQUE);
        A.due("the last of the roots < 11", x.segment(1), 70);
        PathCalls y = ofKinds(true, 0, 1);
        put(y, 1, 1, 5, 1);
        put(y, 1, 1, 6, 2);
        A.due("a root's key is there", put(y, 2, 1, 5, 3), 7);
        A.due("of another kind it is not", put(y, 1, 2, 5, 3), 0);
    }

    private static void aheadOfChildren() {
        A.says("Terms, promise 12", "a segment comes ahead of its children");
        PathCalls x = ofKinds(true, 0, 1, 2);
        put(x, 1, 1, 9, 1);
        put(x, 1, 2, 5, 2);
        put(x, 1, 3, Long.MIN_VALUE, 3);
        A.dueValues("keys lesser on each level", x, 1, 2, 3);
    }

    private static void childrenByKind() {
        A.says("Terms, promise 12", "those in the order of their kinds");
        PathCalls x = ofKinds(true, 0, 1, 1, 2, 1);
        put(x, 1, 1, 1, 1);
        put(x, 1, 5, 1, 5);
        put(x, 1, 3, 2, 3);
        put(x, 1, 2, 3, 2);
        put(x, 1, 4, 4, 4);
        A.dueValues("keys the other way round", x, 1, 2, 4, 3, 5);
        put(x, 1, 3, 9, 30);
        put(x, 1, 2, 9, 20);
        A.dueValues("behind their twins, ahead of the next kind", x, 1, 2, 4, 20, 3, 30, 5);
    }

    private static void twinsByKey() {
        A.says("Terms, promise 12", "twins in that of their keys");
        long[] keys = {0, Long.MAX_VALUE, Long.MIN_VALUE, -1, 1, Long.MIN_VALUE + 1, Long.MAX_VALUE - 1, 1L << 32};
        PathCalls x = ofKinds(true, 0);
        for (int i = 0; i < keys.length; i++) {
            A.due("key " + keys[i], put(x, 1, 1, keys[i], i), 0);
        }
        A.dueValues("no difference of keys wraps around", x, 2, 5, 3, 0, 4, 7, 6, 1);
    }

    private static void childrenAheadOfNextTwin() {
        A.says("Terms, promise 12", "a segment's children (theirs, too) are all ahead of its next twin");
        PathCalls x = tree();
        A.due("a twin between twins with children", put(x, 1, 1, 5, 55), 0);
        A.dueValues("roots", x, 10, 20, 30, 40, 50, 60, 55, 70, 80, 90, 100, 110);
        to(x, 1, UNIQUE, 1);
        put(x, 1, 2, 3, 33);
        A.dueValues("behind what lies in the one ahead", x, 10, 20, 30, 40, 33, 50, 60, 55, 70, 80, 90, 100, 110);
        to(x, 1, UNIQUE, 8);
        put(x, 1, 4, 99, 99);
        A.dueValues("a child's child", x, 10, 20, 30, 40, 33, 50, 60, 55, 70, 80, 90, 99, 100, 110);
    }

    private static void uniqueKeysDiffer() {
        A.says("Terms, promise 8", "Keys of twins of a UNIQUE kind differ");
        long[] keys = {0, Long.MIN_VALUE, Long.MAX_VALUE};
        for (long key : keys) {
            PathCalls x = ofKinds(true, 0, 1, 1);
            put(x, 1, 1, key, 1);
            put(x, 1, 2, key, 2);
            A.due("a twin's key", put(x, 1, 2, key, 3), 7);
            A.due("that of one of another kind", put(x, 1, 3, key, 4), 0);
            A.due("a root's key", put(x, 1, 1, key, 5), 7);
            A.due("one more root", put(x, 1, 1, 77, 6), 0);
            A.due("that of one in another root", put(x, 1, 2, key, 7), 0);
            A.due("all that are done", x.count(), 5);
        }
        PathCalls y = ofKinds(false, 0);
        put(y, 1, 1, 0, 1);
        A.due("the kind is not unique", put(y, 1, 1, 0, 2), 0);
    }

    /** Roots of keys 4, 5, 5, 6 with values 40, 50, 51, 60, those of key 5 with a child each (500, 510). */
    private static PathCalls equalKeys(int rule) {
        PathCalls x = ofKinds(false, 0, 1);
        put(x, 1, 1, 4, 40);
        put(x, 1, 1, 5, 50);
        put(x, 1, 2, 5, 500);
        put(x, 1, 1, 5, 51);
        put(x, 1, 2, 5, 510);
        put(x, 1, 1, 6, 60);
        x.rule(1, rule);
        return x;
    }

    private static void ruleAhead() {
        A.says("Terms, promise 14", "RULE: 0 the new one ahead of them");
        PathCalls x = equalKeys(0);
        coded(x, 1, EQUAL, 5, LAST);
        x.get(1, UNIQUE);
        A.due("wherever the position is", put(x, 1, 1, 5, 52), 0);
        A.dueValues("ahead of them", x, 40, 52, 50, 500, 51, 510, 60);
        put(x, 1, 1, 4, 41);
        A.dueValues("ahead of all segments", x, 41, 40, 52, 50, 500, 51, 510, 60);
        put(x, 1, 1, 3, 30);
        A.dueValues("no equal one", x, 30, 41, 40, 52, 50, 500, 51, 510, 60);
    }

    private static void ruleBehind() {
        A.says("Terms, promise 14", "RULE: 1 behind them");
        PathCalls x = equalKeys(1);
        x.part(1, EQUAL, 5);
        x.get(1, UNIQUE);
        A.due("wherever the position is", put(x, 1, 1, 5, 52), 0);
        A.dueValues("behind them and what lies in them", x, 40, 50, 500, 51, 510, 52, 60);
        put(x, 1, 1, 6, 61);
        A.dueValues("behind all segments", x, 40, 50, 500, 51, 510, 52, 60, 61);
        put(x, 1, 1, 7, 70);
        A.dueValues("no equal one", x, 40, 50, 500, 51, 510, 52, 60, 61, 70);
    }

    private static void ruleAtPosition() {
        A.says("Terms, promise 14", "RULE: 2 just ahead of the view's position if that is one of them");
        PathCalls x = equalKeys(2);
        coded(x, 1, EQUAL, 5, LAST);
        x.get(1, UNIQUE);
        put(x, 1, 1, 5, 52);
        A.dueValues("the last of them", x, 40, 50, 500, 52, 51, 510, 60);
        put(x, 1, 1, 5, 53);
        A.dueValues("the new one", x, 40, 50, 500, 53, 52, 51, 510, 60);
        x.part(1, EQUAL, 5);
        x.get(1, UNIQUE);
        put(x, 1, 1, 5, 54);
        A.dueValues("the first of them", x, 40, 54, 50, 500, 53, 52, 51, 510, 60);
    }

    private static void ruleAheadOfAll() {
        A.says("Terms, promise 14", "else ahead of all");
        PathCalls x = equalKeys(2);
        put(x, 2, 1, 5, 52);
        A.dueValues("no position", x, 40, 52, 50, 500, 51, 510, 60);
        A.due("to another key", put(x, 1, 1, 6, 61), 0);
        put(x, 1, 1, 5, 53);
        A.dueValues("the position is a twin of another key", x, 40, 53, 52, 50, 500, 51, 510, 61, 60);
        coded(x, 1, EQUAL, 5, LAST);
        parts(x, 2);
        x.get(1, UNIQUE);
        put(x, 1, 1, 5, 54);
        A.dueValues("the position lies in one of them", x, 40, 54, 53, 52, 50, 500, 51, 510, 61, 60);
        coded(x, 1, EQUAL, 5, LAST);
        x.get(2, UNIQUE);
        x.part(1, EQUAL, 4);
        x.get(1, UNIQUE);
        put(x, 1, 1, 5, 55);
        A.dueValues("another view's position is the last", x, 40, 55, 54, 53, 52, 50, 500, 51, 510, 61, 60);
        PathCalls y = ofKinds(false, 0, 1);
        y.rule(2, 2);
        put(y, 1, 1, 1, 1);
        put(y, 1, 2, 5, 2);
        put(y, 1, 1, 2, 3);
        put(y, 1, 2, 5, 4);
        y.part(1, EQUAL, 1);
        y.part(2, ANY, 0);
        A.due("below the other root", y.insert(1, 5, 5), 0);
        A.dueValues("the position has another parent", y, 1, 5, 2, 3, 4);
    }

    private static void partsGo() {
        A.says("Terms, promises 6 and 8", "PARTS .. go with the next get() or insert()");
        PathCalls x = ofKinds(true, 0, 1);
        parts(x, 1);
        A.due("insert, 0", x.insert(1, 1, 1), 0);
        A.due("gone", x.code(1, 0), -1);
        parts(x, 1);
        A.due("insert, 7", x.insert(1, 1, 1), 7);
        A.due("gone", x.code(1, 0), -1);
        parts(x, 2, 1);
        A.due("insert, 6", x.insert(1, 1, 1), 6);
        A.due("gone", x.code(1, 0), -1);
        parts(x, 2);
        A.due("insert, 1", x.insert(2, 1, 1), 1);
        A.due("gone", x.code(1, 0), -1);
        parts(x, 2);
        A.due("get, 5", x.get(2, WITHIN), 5);
        A.due("gone", x.code(1, 0), -1);
        parts(x, 1);
        A.due("get, 0", x.get(1, UNIQUE), 0);
        A.due("gone", x.code(1, 0), -1);
        parts(x, 2);
        A.due("get, 1", x.get(1, UNIQUE), 1);
        A.due("gone", x.code(1, 0), -1);
        parts(x, 2);
        A.due("get, 2", x.get(1, NEXT), 2);
        A.due("gone", x.code(1, 0), -1);
        parts(x, 1, 1);
        A.due("get, 6", x.get(1, UNIQUE), 6);
        A.due("gone", x.code(1, 0), -1);
        parts(x, 1);
        A.due("get of no such call, 6", x.get(1, 3), 6);
        A.due("gone", x.code(1, 0), -1);
    }

    private static void partsStay() {
        A.says("Terms, promises 4 and 9 to 15", "PARTS are collected, and go with the next get() or insert()");
        PathCalls x = tree();
        to(x, 2, HOLD, 3);
        x.part(1, EQUAL, 7);
        x.code(1, PATH);
        x.kind(1, true);
        x.view();
        x.replace(2, 5);
        x.delete(2);
        x.position(1, 0);
        x.order(0, 0);
        x.count();
        x.rule(1, 1);
        x.within(1);
        x.segment(1);
        A.due("no other call takes them", x.part(2, ANY, 0), 2);
        A.due("they tell what they told", x.get(2, UNIQUE), 0);
        A.due("key 7", x.segment(1), 70);
        A.due("the first 2 in it", x.segment(2), 80);
    }

    /** How many of the keys MIN, -1, 0, 1, MAX stand in relation to one key, each found by NEXT. */
    private static int countBy(int op, long key) {
        long[] keys = {Long.MIN_VALUE, -1, 0, 1, Long.MAX_VALUE};
        PathCalls x = ofKinds(true, 0);
        for (long k : keys) {
            put(x, 1, 1, k, 1);
        }
        int found = 0;
        x.part(1, op, key);
        while (found < keys.length && x.get(2, NEXT) == 0) {
            found++;
            x.part(1, op, key);
        }
        return found;
    }

    private static void relations() {
        A.says("Terms, promise 4", "0 any, 1 = , 2 > , 3 < , 4 >= , 5 <= , 6 not = a key");
        long[] keys = {Long.MIN_VALUE, -1, 0, 1, Long.MAX_VALUE};
        for (int i = 0; i < keys.length; i++) {
            int[] due = {5, 1, 4 - i, i, 5 - i, i + 1, 4};
            for (int op = 0; op <= 6; op++) {
                A.due("relation " + op + " to " + keys[i], countBy(op, keys[i]), due[op]);
            }
        }
        int[] due = {5, 0, 1, 4, 1, 4, 5};
        for (int op = 0; op <= 6; op++) {
            A.due("relation " + op + " to a key that isn't there", countBy(op, 2), due[op]);
        }
    }

    private static void codesAdded() {
        A.says("Terms, promise 5", "CODES: 1 LAST, 2 the PLACE is kept, 4 PARENTAGE, 8 PATH (added)");
        for (int codes = 0; codes <= 15; codes++) {
            PathCalls x = tree();
            to(x, 2, UNIQUE, 2);
            coded(x, 1, LESSER, 11, codes);
            parts(x, 2);
            boolean isLast = (codes & LAST) != 0;
            boolean isPlace = (codes & PLACE) != 0;
            String when = "codes " + codes;
            A.due(when + " on the root", x.get(2, UNIQUE), isLast && isPlace ? 1 : 0);
            long root = isLast && isPlace ? 0 : isLast ? 70 : 10;
            A.due(when + ": PATH", x.segment(1), (codes & PATH) != 0 ? root : 0);
            A.due(when + ": LAST", x.segment(2), isLast && !isPlace ? 80 : 20);
            boolean isParentage = (codes & PARENTAGE) != 0 && !(isLast && isPlace);
            A.due(when + ": PARENTAGE", x.position(2, 2), isParentage ? 1 : 2);
        }
        for (int codes = 0; codes <= 15; codes++) {
            PathCalls x = tree();
            to(x, 2, UNIQUE, 9);
            coded(x, 1, ANY, 0, codes & ~LAST);
            parts(x, 3);
            x.get(2, UNIQUE);
            A.due("codes " + (codes & ~LAST) + ": PLACE", x.segment(2), (codes & PLACE) != 0 ? 100 : 60);
        }
    }

    private static void partsFit() {
        A.says("Terms, promises 6 and 8", "They fit if each one's kind lies below (at any depth) the one before it");
        PathCalls x = ofKinds(true, 0, 1, 2, 3, 4, 5, 6, 7, 1, 9);
        int[][] fit = {{1}, {8}, {10}, {1, 8}, {1, 2}, {7, 8}, {2, 5, 8}, {1, 9}, {1, 10}, {9, 10},
            {1, 2, 3, 4, 5, 6, 7, 8}};
        for (int[] kinds : fit) {
            parts(x, kinds);
            A.due("fit, to " + kinds[kinds.length - 1], x.get(1, UNIQUE), 1);
        }
        int[][] unfit = {{1, 1}, {8, 8}, {2, 1}, {8, 1}, {8, 7}, {9, 2}, {2, 9}, {2, 10}, {10, 9}, {9, 8},
            {1, 2, 2}, {1, 2, 9}, {1, 1, 2}, {2, 1, 8}, {1, 2, 3, 4, 5, 6, 7, 7}};
        for (int[] kinds : unfit) {
            parts(x, kinds);
            A.due("don't fit, to " + kinds[kinds.length - 1], x.get(1, UNIQUE), 6);
        }
    }

    private static void lastPartsKind() {
        A.says("Terms, promise 6", "A segment is as the parts say if it is of the last one's kind");
        PathCalls x = tree();
        parts(x, 1, 2);
        A.due("get", x.get(2, UNIQUE), 0);
        A.due("not the root", x.position(2, 0), 2);
        parts(x, 2);
        x.get(2, NEXT);
        A.due("nor what lies in a 2", x.segment(2), 50);
        parts(x, 3);
        x.get(2, NEXT);
        A.due("nor another kind on its level", x.segment(2), 60);
    }

    private static void isOrLiesIn() {
        A.says("Terms, promise 6", "for each part the segment of that kind that it is, or lies in, has a key as the"
            + " relation says");
        PathCalls x = tree();
        x.part(1, EQUAL, 7);
        x.part(4, ANY, 0);
        x.get(2, UNIQUE);
        A.due("a root two levels up", x.segment(3), 90);
        x.part(1, EQUAL, 1);
        x.part(2, EQUAL, 5);
        x.part(4, ANY, 0);
        A.due("a 2 in which no 4 lies", x.get(2, UNIQUE), 1);
        x.part(1, EQUAL, 7);
        x.part(2, EQUAL, 2);
        A.due("each one alone is there, not both", x.get(2, UNIQUE), 1);
        x.part(1, GREATER, 1);
        x.part(2, EQUAL, 8);
        x.part(4, LESSER, 9);
        A.due("all but the last", x.get(2, UNIQUE), 1);
        x.part(1, GREATER, 7);
        x.part(2, EQUAL, 8);
        x.part(4, EQUAL, 9);
        A.due("all but the first", x.get(2, UNIQUE), 1);
        x.part(1, GREATER, 1);
        x.part(2, GREATER, 8);
        x.part(4, EQUAL, 9);
        A.due("all but the middle one", x.get(2, UNIQUE), 1);
    }

    private static void lastOfTwins() {
        A.says("Terms, promise 6", "with LAST it is the last of its twins");
        PathCalls x = tree();
        coded(x, 2, ANY, 0, LAST);
        x.get(2, UNIQUE);
        A.due("twins in another root are none of them", x.segment(2), 50);
        coded(x, 2, ANY, 0, LAST);
        x.get(2, NEXT);
        A.due("an only one is the last", x.segment(2), 80);
        coded(x, 4, ANY, 0, LAST);
        x.get(2, UNIQUE);
        A.due("on level 3", x.segment(3), 40);
        coded(x, 1, ANY, 0, LAST);
        parts(x, 3);
        A.due("in the last root there is none", x.get(2, UNIQUE), 1);
        coded(x, 1, ANY, 0, LAST);
        coded(x, 3, ANY, 0, LAST);
        A.due("nor with LAST on both", x.get(2, UNIQUE), 1);
        coded(x, 2, ANY, 0, LAST);
        parts(x, 4);
        x.get(2, UNIQUE);
        A.due("the 2 that it lies in is the last", x.segment(3), 90);
        PathCalls y = equalKeys(1);
        coded(y, 1, EQUAL, 5, LAST);
        y.get(2, UNIQUE);
        A.due("the last of those of one key", y.segment(1), 51);
    }

    private static void lastOfThoseThatHave() {
        A.says("Terms, promise 6", "the last of its twins that has [a key as the relation says]");
        PathCalls x = tree();
        long[] due = {110, 70, 110, 10, 110, 70, 110};
        for (int op = 0; op <= 6; op++) {
            coded(x, 1, op, 7, LAST);
            A.due("relation " + op + " to 7", x.get(2, UNIQUE), 0);
            A.due("relation " + op + " to 7", x.segment(1), due[op]);
        }
        coded(x, 1, LESSER, 11, LAST);
        parts(x, 4);
        x.get(2, UNIQUE);
        A.due("in the last root < 11", x.segment(3), 90);
        coded(x, 1, LESSER, 1, LAST);
        A.due("no twin has", x.get(2, UNIQUE), 1);
    }

    private static void placeIs() {
        A.says("Terms, promise 6", "with PLACE it is the one that the view's position is");
        PathCalls x = tree();
        to(x, 2, UNIQUE, 8);
        coded(x, 2, ANY, 0, PLACE);
        A.due("itself", x.get(2, UNIQUE), 0);
        A.due("itself", x.segment(2), 80);
        coded(x, 2, EQUAL, 2, PLACE);
        A.due("with another key", x.get(2, UNIQUE), 1);
        coded(x, 2, ANY, 0, PLACE);
        parts(x, 4);
        x.get(2, UNIQUE);
        A.due("in itself", x.segment(3), 90);
        to(x, 2, UNIQUE, 8);
        coded(x, 2, ANY, 0, PLACE);
        A.due("itself is not behind itself", x.get(2, NEXT), 2);
        coded(x, 1, ANY, 0, PLACE);
        A.due("view 1 has its own place", x.get(1, UNIQUE), 0);
        A.due("view 1 has its own place", x.segment(1), 110);
    }

    private static void placeLiesIn() {
        A.says("Terms, promise 6", "with PLACE it is the one that the view's position .. lies in");
        PathCalls x = tree();
        to(x, 2, UNIQUE, 9);
        coded(x, 1, ANY, 0, PLACE);
        parts(x, 3);
        A.due("two levels up", x.get(2, UNIQUE), 0);
        A.due("the 3 in that root", x.segment(2), 100);
        coded(x, 2, ANY, 0, PLACE);
        A.due("on its own level, of another kind", x.get(2, UNIQUE), 1);
        coded(x, 1, ANY, 0, PLACE);
        parts(x, 4);
        A.due("the 4 in that root", x.get(2, UNIQUE), 0);
        A.due("the 4 in that root", x.segment(3), 90);
        coded(x, 1, ANY, 0, PLACE);
        x.get(2, UNIQUE);
        A.due("that root itself", x.segment(1), 70);
        coded(x, 2, ANY, 0, PLACE);
        A.due("a kind below the position's", x.get(2, UNIQUE), 1);
    }

    private static void placeOfNone() {
        A.says("Terms, promise 6", "with PLACE, a POSITION (none at first)");
        PathCalls x = tree();
        for (int kind = 1; kind <= 4; kind++) {
            coded(x, kind, ANY, 0, PLACE);
            A.due("kind " + kind + ", UNIQUE", x.get(2, UNIQUE), 1);
            coded(x, kind, ANY, 0, PLACE);
            A.due("kind " + kind + ", NEXT", x.get(2, NEXT), 2);
        }
        coded(x, 1, ANY, 0, PLACE);
        parts(x, 2);
        A.due("insert", x.insert(2, 1, 1), 1);
    }

    private static void newViews() {
        A.says("Terms, promise 3", "VIEWS have a POSITION (none at first: ahead of all), a PARENTAGE (none at first)"
            + ", and perhaps a HOLD");
        PathCalls x = tree();
        A.duePosition("a new view", x, 2, 0, 0, 0, 0);
        A.due("no parentage", x.within(2), -1);
        A.due("no hold", x.replace(2, 1), 8);
        A.due("ahead of all", x.get(2, NEXT), 0);
        A.due("the first of all is behind", x.segment(1), 10);
        A.due("view 3, made late", x.view(), 3);
        A.duePosition("a new view", x, 3, 0, 0, 0, 0);
        A.due("no parentage", x.get(3, WITHIN), 5);
    }

    private static PathCalls heldWithParts() {
        PathCalls x = tree();
        to(x, 1, HOLD, 5);
        to(x, 2, HOLD, 3);
        coded(x, 1, EQUAL, 7, PATH);
        coded(x, 2, ANY, 0, PARENTAGE);
        return x;
    }

    private static void noSuchView() {
        A.says("Terms, promises 6, 8 to 10", "NONE (nothing is done, parts stay): no such view");
        int[] wrong = {0, -1, 3, 9, 10, Integer.MAX_VALUE, Integer.MIN_VALUE};
        for (int view : wrong) {
            PathCalls x = heldWithParts();
            A.due("get of view " + view, x.get(view, UNIQUE), -1);
            A.due("get of no such call, view " + view, x.get(view, 3), -1);
            A.due("insert of view " + view, x.insert(view, 1, 1), -1);
            A.due("replace of view " + view, x.replace(view, 1), -1);
            A.due("delete of view " + view, x.delete(view), -1);
            A.dueState("view " + view, x, heldWithParts());
            A.due("the parts tell what they told", x.get(1, UNIQUE), 0);
            A.due("root 7", x.segment(1), 70);
            A.due("the 2 in it", x.segment(2), 80);
            A.due("the hold is there", x.replace(2, 3), 0);
        }
        PathCalls y = heldWithParts();
        parts(y, 1);
        A.due("parts that don't fit", y.get(3, UNIQUE), -1);
        A.due("are there still", y.get(1, UNIQUE), 6);
    }
}
