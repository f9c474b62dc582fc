/** Edges that promises 11 to 13 and 15 name: position, order, count, within. */
public final class EdgesOfLookTest extends Bases {
    private static final Answers A = new Answers("EdgesOfLookTest");
    private static final int MAX = Integer.MAX_VALUE;
    private static final int MIN = Integer.MIN_VALUE;
    private static final int[] NO_VIEWS = {0, -1, 3, 9, 10, MAX, MIN};

    public static void main(String[] args) {
        positionKindAndLevel();
        positionParentage();
        positionOfNone();
        positionHold();
        positionOfNoView();
        positionOfOtherWhats();
        orderFromZeroOn();
        orderKindAndLevel();
        orderLowestBits();
        orderOfNoSegment();
        orderOfOtherWhats();
        countOfNone();
        countOfAll();
        lookingChangesNothing();
        refusedCallsChangeNothing();
        withinItself();
        withinAtEachDepth();
        withinWhatComesAndGoes();
        withinWithoutParentage();
        withinWithoutView();
        A.end();
    }

    private static void positionKindAndLevel() {
        A.says("Promise 11", "what = 0 the kind of a view's position, 1 its level");
        PathCalls x = tree();
        int[][] keysKindsLevels = {{1, 1, 1}, {2, 2, 2}, {3, 4, 3}, {6, 3, 2}, {9, 4, 3}, {11, 1, 1}};
        for (int[] row : keysKindsLevels) {
            to(x, 2, UNIQUE, row[0]);
            A.due("the kind of key " + row[0], x.position(2, 0), row[1]);
            A.due("the level of key " + row[0], x.position(2, 1), row[2]);
        }
        PathCalls y = ofKinds(true, 0, 1, 2, 3, 4, 5, 6, 7);
        for (int kind = 1; kind <= 8; kind++) {
            put(y, 1, kind, 1, 1);
            A.due("level " + kind, y.position(1, 1), kind);
        }
    }

    private static void positionParentage() {
        A.says("Promise 11", "2 the kind of its parentage");
        PathCalls x = tree();
        coded(x, 2, ANY, 0, PARENTAGE);
        parts(x, 4);
        x.get(2, UNIQUE);
        A.duePosition("the parentage is not the position", x, 2, 4, 3, 2, 0);
        to(x, 2, UNIQUE, 6);
        A.duePosition("the parentage is the position", x, 2, 3, 2, 3, 0);
    }

    private static void positionOfNone() {
        A.says("Promise 11", "(0 for none)");
        PathCalls x = tree();
        A.duePosition("neither", x, 2, 0, 0, 0, 0);
        A.duePosition("a position, no parentage", x, 1, 1, 1, 0, 0);
        to(x, 2, UNIQUE, 9);
        x.part(4, GREATER, 9);
        x.get(2, NEXT);
        A.duePosition("a parentage, no position", x, 2, 0, 0, 4, 0);
    }

    private static void positionHold() {
        A.says("Promise 11", "3 whether there is a hold");
        PathCalls x = tree();
        A.due("none", x.position(2, 3), 0);
        to(x, 2, HOLD, 2);
        A.due("one", x.position(2, 3), 1);
        A.due("looking leaves it", x.position(2, 3), 1);
        A.due("another view has none", x.position(1, 3), 0);
        x.replace(2, 1);
        A.due("gone", x.position(2, 3), 0);
    }

    private static void positionOfNoView() {
        A.says("Promise 11", "NONE for others [views]");
        PathCalls x = tree();
        for (int view : NO_VIEWS) {
            for (int what = 0; what <= 3; what++) {
                A.due("position(" + view + ", " + what + ")", x.position(view, what), -1);
            }
        }
    }

    private static void positionOfOtherWhats() {
        A.says("Promise 11", "NONE for others [whats]");
        int[] wrong = {-1, 4, 5, MAX, MIN};
        PathCalls x = tree();
        to(x, 1, HOLD, 3);
        for (int what : wrong) {
            A.due("position(1, " + what + ")", x.position(1, what), -1);
            A.due("position(2, " + what + ")", x.position(2, what), -1);
            A.due("position(3, " + what + ")", x.position(3, what), -1);
        }
    }

    private static void orderFromZeroOn() {
        A.says("Promise 12", "Of the i-th segment in hierarchic order, from 0 on");
        PathCalls x = tree();
        for (int i = 0; i < 11; i++) {
            A.due("the key of " + i, x.order(i, 2), i + 1);
            A.due("the value of " + i, x.order(i, 3), 10 * (i + 1));
        }
    }

    private static void orderKindAndLevel() {
        A.says("Promise 12", "what = 0 its kind, 1 its level");
        int[] kinds = {1, 2, 4, 4, 2, 3, 1, 2, 4, 3, 1};
        int[] levels = {1, 2, 3, 3, 2, 2, 1, 2, 3, 2, 1};
        PathCalls x = tree();
        for (int i = 0; i < 11; i++) {
            A.due("the kind of " + i, x.order(i, 0), kinds[i]);
            A.due("the level of " + i, x.order(i, 1), levels[i]);
        }
    }

    private static void orderLowestBits() {
        A.says("Promise 12", "2, 3 the lowest 32 bits of its key, its value");
        long[] numbers = {0, 1, -1, MAX, MIN, 1L << 31, 1L << 32, (1L << 32) - 1, (1L << 32) + 5, Long.MAX_VALUE,
            Long.MIN_VALUE, -(1L << 32) - 1};
        for (long number : numbers) {
            PathCalls x = ofKinds(true, 0);
            put(x, 1, 1, number, ~number);
            A.due("key " + number, x.order(0, 2), (int) (number & 0xFFFF_FFFFL));
            A.due("value " + ~number, x.order(0, 3), (int) (~number & 0xFFFF_FFFFL));
        }
    }

    private static void orderOfNoSegment() {
        A.says("Promise 12", "NONE for others [than those that are there]");
        int[] wrong = {-1, -2, 11, 12, 255, 256, 257, MAX, MIN};
        PathCalls x = tree();
        PathCalls empty = ofKinds(true, 0);
        for (int i : wrong) {
            for (int what = 0; what <= 3; what++) {
                A.due("order(" + i + ", " + what + ")", x.order(i, what), -1);
            }
        }
        A.due("in an empty base", empty.order(0, 0), -1);
        to(x, 2, HOLD, 1);
        x.delete(2);
        A.due("the last one behind a delete", x.order(4, 2), 11);
        A.due("those that went", x.order(5, 2), -1);
        A.due("those that went", x.order(10, 2), -1);
    }

    private static void orderOfOtherWhats() {
        A.says("Promise 12", "NONE for others [whats]");
        int[] wrong = {-1, 4, 5, MAX, MIN};
        PathCalls x = tree();
        for (int what : wrong) {
            A.due("order(0, " + what + ")", x.order(0, what), -1);
            A.due("order(10, " + what + ")", x.order(10, what), -1);
            A.due("order(11, " + what + ")", x.order(11, what), -1);
        }
    }

    private static void countOfNone() {
        A.says("Promise 13", "How many segments there are [none]");
        A.due("a new object", new PathCalls().count(), 0);
        PathCalls x = ofKinds(true, 0);
        A.due("kinds and views are no segments", x.count(), 0);
        parts(x, 1);
        A.due("parts are no segments", x.count(), 0);
        x.insert(1, 1, 1);
        A.due("one", x.count(), 1);
        x.get(1, HOLD);
        x.delete(1);
        A.due("none again", x.count(), 0);
    }

    private static void countOfAll() {
        A.says("Promise 13", "How many segments there are [as many as 512 calls can make]");
        PathCalls x = new PathCalls();
        x.kind(0, true);
        x.view();
        for (int i = 1; i <= 254; i++) {
            put(x, 1, 1, i, i);
        }
        A.due("254 inserts", x.count(), 254);
        A.due("the last one", x.order(253, 3), 254);
        PathCalls y = tree();
        A.due("on all levels", y.count(), 11);
        to(y, 2, HOLD, 7);
        y.delete(2);
        A.due("without a tree of four", y.count(), 7);
    }

    private static PathCalls busy() {
        PathCalls x = tree();
        to(x, 1, HOLD, 5);
        coded(x, 1, EQUAL, 7, PARENTAGE + PATH);
        parts(x, 4);
        x.get(2, HOLD);
        coded(x, 1, EQUAL, 1, PATH);
        coded(x, 2, ANY, 0, LAST);
        return x;
    }

    private static void lookingChangesNothing() {
        A.says("Promises 7, 11 to 13, 15", "[they tell, and change nothing]");
        PathCalls x = busy();
        for (int what = -1; what <= 4; what++) {
            x.position(1, what);
            x.position(2, what);
            x.order(0, what);
            x.order(11, what);
        }
        x.count();
        x.within(1);
        x.within(2);
        x.segment(1);
        x.segment(9);
        A.dueState("looked at", x, busy());
        A.due("the parts tell what they told", x.get(2, UNIQUE), 0);
        A.due("root 1", x.segment(1), 10);
        A.due("the last 2 in it", x.segment(2), 50);
    }

    private static void refusedCallsChangeNothing() {
        A.says("Promise 13", "refused calls change nothing");
        PathCalls x = busy();
        A.due("kind", x.kind(0, true), -1);
        A.due("part", x.part(9, ANY, 0), -1);
        A.due("part", x.part(1, 7, 0), -1);
        A.due("code", x.code(3, 0), -1);
        A.due("code", x.code(1, 16), -1);
        A.due("get", x.get(3, HOLD), -1);
        A.due("insert", x.insert(3, 1, 1), -1);
        A.due("replace", x.replace(3, 1), -1);
        A.due("delete", x.delete(3), -1);
        A.due("position", x.position(3, 0), -1);
        A.due("order", x.order(11, 0), -1);
        A.due("rule", x.rule(1, 3), -1);
        A.due("rule", x.rule(9, 0), -1);
        A.due("within", x.within(3), -1);
        A.dueState("refused", x, busy());
        A.due("the hold is there", x.replace(1, 55), 0);
        A.due("the other hold is there", x.replace(2, 99), 0);
        A.dueValues("on the ones held", x, 10, 20, 30, 40, 55, 60, 70, 80, 99, 100, 110);
    }

    private static void withinItself() {
        A.says("Promise 15", "How many segments lie in a view's parentage [not itself]");
        PathCalls x = tree();
        to(x, 2, UNIQUE, 11);
        A.due("the last of all, a leaf", x.within(2), 0);
        to(x, 2, UNIQUE, 3);
        A.due("a leaf with a twin behind it", x.within(2), 0);
        to(x, 2, UNIQUE, 4);
        A.due("a leaf ahead of a lesser level", x.within(2), 0);
    }

    private static void withinAtEachDepth() {
        A.says("Promise 15", "How many segments lie in a view's parentage [at any depth]");
        PathCalls x = tree();
        int[][] keysAndCounts = {{1, 5}, {2, 2}, {5, 0}, {6, 0}, {7, 3}, {8, 1}};
        for (int[] row : keysAndCounts) {
            to(x, 2, UNIQUE, row[0]);
            A.due("key " + row[0], x.within(2), row[1]);
        }
        coded(x, 1, EQUAL, 7, PARENTAGE);
        parts(x, 4);
        x.get(2, UNIQUE);
        A.due("the parentage, not the position", x.within(2), 3);
        PathCalls y = ofKinds(true, 0, 1, 2, 3, 4, 5, 6, 7);
        for (int kind = 1; kind <= 8; kind++) {
            put(y, 1, kind, 1, 1);
        }
        y.get(2, UNIQUE);
        A.due("seven levels", y.within(2), 7);
    }

    private static void withinWhatComesAndGoes() {
        A.says("Promise 15", "How many segments lie in a view's parentage [now]");
        PathCalls x = tree();
        to(x, 2, UNIQUE, 7);
        x.part(2, EQUAL, 8);
        parts(x, 4);
        x.insert(1, 0, 1);
        A.due("one more", x.within(2), 4);
        put(x, 1, 1, 8, 2);
        A.due("its new twin is none of them", x.within(2), 4);
        to(x, 1, HOLD, 8);
        x.delete(1);
        A.due("three less", x.within(2), 1);
        to(x, 1, HOLD, 1);
        x.delete(1);
        A.due("a tree ahead went", x.within(2), 1);
    }

    private static void withinWithoutParentage() {
        A.says("Promise 15", "NONE without one");
        PathCalls x = tree();
        A.due("a new view", x.within(2), -1);
        A.due("a position alone", x.within(1), -1);
        to(x, 2, HOLD, 7);
        x.delete(2);
        A.due("it was deleted", x.within(2), -1);
        A.due("a position is there", x.position(2, 0), 3);
    }

    private static void withinWithoutView() {
        A.says("Promise 15", "NONE .. without a view");
        PathCalls x = tree();
        to(x, 2, UNIQUE, 1);
        for (int view : NO_VIEWS) {
            A.due("within(" + view + ")", x.within(view), -1);
        }
        A.due("view 3, when there is one", x.view(), 3);
        A.due("has no parentage", x.within(3), -1);
    }
}
