/** Edges that promises 6 and 7 name: get, segment. */
public final class EdgesOfGetTest extends Bases {
    private static final Answers A = new Answers("EdgesOfGetTest");
    private static final int MAX = Integer.MAX_VALUE;
    private static final int MIN = Integer.MIN_VALUE;

    public static void main(String[] args) {
        uniqueIsTheFirst();
        uniqueWithoutParts();
        nextIsBehind();
        nextFromNone();
        withinBehindThePosition();
        withinFromItsBeginning();
        withinNotItself();
        withinNotBeyond();
        withHold();
        isThePosition();
        isTheParentage();
        withinKeepsTheParentage();
        codedParentage();
        codedParentageByWithin();
        lastCodeCounts();
        statusThree();
        statusFour();
        noSteppingStatus();
        steppingFromNone();
        notFound();
        theEnd();
        takesTheHold();
        noParentage();
        partsThatDoNotFit();
        otherCalls();
        pathOnItsOwnLevel();
        pathOfParts();
        pathOfOtherLevels();
        pathOfTheLatestFound();
        pathOfAnyView();
        pathAsItWas();
        A.end();
    }

    /** The value found is that on the position's own level. */
    private static void dueFound(String when, PathCalls x, int view, int call, int status, long value) {
        A.due(when + ": get(" + view + ", " + call + ")", x.get(view, call), status);
        A.due(when + ": found", x.segment(x.position(view, 1)), value);
    }

    private static void duePath(String when, PathCalls x, long... values) {
        for (int level = 1; level <= 8; level++) {
            long due = level <= values.length ? values[level - 1] : 0;
            A.due(when + ": segment(" + level + ")", x.segment(level), due);
        }
    }

    private static void uniqueIsTheFirst() {
        A.says("Promise 6", "0 UNIQUE: the first segment in hierarchic order that is as the parts say");
        PathCalls x = ofKinds(false, 0, 1);
        put(x, 1, 1, 1, 1);
        put(x, 1, 2, 50, 2);
        put(x, 1, 1, 2, 3);
        put(x, 1, 2, 10, 4);
        put(x, 1, 2, 10, 5);
        parts(x, 2);
        dueFound("in hierarchic order, not by key", x, 1, UNIQUE, 0, 2);
        x.part(2, LESSER, 50);
        dueFound("the first of those of one key", x, 1, UNIQUE, 0, 4);
        x.part(2, ANY, 0);
        dueFound("ahead of the position, too", x, 1, UNIQUE, 0, 2);
        x.part(2, ANY, 0);
        dueFound("the position itself, too", x, 1, UNIQUE, 0, 2);
    }

    private static void uniqueWithoutParts() {
        A.says("Promise 6", "(without parts the first of all)");
        PathCalls x = tree();
        dueFound("from the last", x, 1, UNIQUE, 0, 10);
        dueFound("from none", x, 2, UNIQUE, 0, 10);
        dueFound("from the first", x, 2, UNIQUE, 0, 10);
        A.due("in an empty base", ofKinds(true, 0).get(1, UNIQUE), 1);
    }

    private static void nextIsBehind() {
        A.says("Promise 6", "1 NEXT: the first one behind the position");
        PathCalls x = tree();
        to(x, 2, UNIQUE, 2);
        parts(x, 4);
        dueFound("in the position", x, 2, NEXT, 0, 30);
        x.part(4, EQUAL, 3);
        A.due("the position itself is not behind it", x.get(2, NEXT), 2);
        to(x, 2, UNIQUE, 9);
        x.part(2, EQUAL, 8);
        A.due("nor is what it lies in", x.get(2, NEXT), 2);
        to(x, 2, UNIQUE, 5);
        parts(x, 2);
        dueFound("in another root", x, 2, NEXT, 0, 80);
        to(x, 2, UNIQUE, 10);
        dueFound("the last of all", x, 2, NEXT, 3, 110);
        A.due("behind the last of all", x.get(2, NEXT), 2);
        PathCalls y = tree();
        to(y, 2, UNIQUE, 4);
        to(y, 1, UNIQUE, 2);
        put(y, 1, 4, 7, 45);
        dueFound("what has come behind it meanwhile", y, 2, NEXT, 0, 45);
    }

    private static void nextFromNone() {
        A.says("Promise 6, Terms", "1 NEXT, with a POSITION (none: ahead of all)");
        dueFound("without parts", tree(), 2, NEXT, 0, 10);
        PathCalls x = tree();
        parts(x, 3);
        dueFound("with a part", x, 2, NEXT, 0, 60);
        A.due("in an empty base", ofKinds(true, 0).get(1, NEXT), 2);
    }

    private static void withinBehindThePosition() {
        A.says("Promise 6", "2 NEXT WITHIN: the first one behind the position (if that is the parentage, or lies in it)");
        PathCalls x = tree();
        to(x, 2, UNIQUE, 1);
        dueFound("the position is the parentage", x, 2, WITHIN, 0, 20);
        dueFound("it lies in it", x, 2, WITHIN, 0, 30);
        parts(x, 2);
        dueFound("two levels down", x, 2, WITHIN, 0, 50);
        x.part(2, EQUAL, 2);
        A.due("ahead of the position", x.get(2, WITHIN), 1);
        x.part(2, EQUAL, 5);
        A.due("the position itself", x.get(2, WITHIN), 1);
        parts(x, 3);
        dueFound("the last one in it", x, 2, WITHIN, 0, 60);
    }

    private static void withinFromItsBeginning() {
        A.says("Promise 6", "2 NEXT WITHIN: (.. else from its beginning)");
        PathCalls x = tree();
        to(x, 2, UNIQUE, 7);
        put(x, 2, 1, 0, 1);
        dueFound("the position is ahead of it", x, 2, WITHIN, 0, 80);
        put(x, 2, 1, 50, 500);
        dueFound("the position is behind it", x, 2, WITHIN, 0, 80);
        x.part(1, EQUAL, 99);
        A.due("to none", x.get(2, NEXT), 2);
        dueFound("there is no position", x, 2, WITHIN, 0, 80);
        PathCalls y = tree();
        to(y, 2, UNIQUE, 8);
        put(y, 2, 3, 99, 990);
        dueFound("the position is in the same root, not in it", y, 2, WITHIN, 0, 90);
        put(y, 2, 2, 7, 75);
        y.part(2, EQUAL, 7);
        y.get(1, HOLD);
        y.delete(1);
        A.duePosition("the position is what the parentage lies in", y, 2, 1, 1, 2, 0);
        dueFound("the position is what the parentage lies in", y, 2, WITHIN, 0, 90);
    }

    private static void withinNotItself() {
        A.says("Promise 6", "2 NEXT WITHIN: that lies in the parentage (not itself)");
        PathCalls x = tree();
        to(x, 2, UNIQUE, 1);
        parts(x, 1);
        A.due("of the parentage's kind, from itself", x.get(2, WITHIN), 1);
        put(x, 2, 1, 50, 500);
        parts(x, 1);
        A.due("of the parentage's kind, from elsewhere", x.get(2, WITHIN), 1);
        dueFound("without parts, from elsewhere", x, 2, WITHIN, 0, 20);
    }

    private static void withinNotBeyond() {
        A.says("Promise 6", "2 NEXT WITHIN: .. that lies in the parentage");
        PathCalls x = tree();
        to(x, 2, UNIQUE, 2);
        dueFound("the first in it", x, 2, WITHIN, 0, 30);
        dueFound("the last in it", x, 2, WITHIN, 0, 40);
        A.due("its next twin doesn't lie in it", x.get(2, WITHIN), 1);
        parts(x, 4);
        A.due("nor does what lies in another", x.get(2, WITHIN), 1);
        to(x, 2, UNIQUE, 5);
        A.due("nothing lies in it, its root has more", x.get(2, WITHIN), 1);
        to(x, 2, UNIQUE, 11);
        A.due("nothing lies in the last of all", x.get(2, WITHIN), 1);
    }

    private static void withHold() {
        A.says("Promise 6", "4 more: with a hold");
        int[] found = {10, 30, 30};
        for (int call = UNIQUE; call <= WITHIN; call++) {
            PathCalls x = tree();
            to(x, 2, UNIQUE, 2);
            dueFound("call " + call, x, 2, call, 0, found[call]);
            A.due("call " + call + ": no hold", x.position(2, 3), 0);
            to(x, 2, UNIQUE, 2);
            dueFound("call " + (call + 4), x, 2, call + HOLD, 0, found[call]);
            A.due("call " + (call + 4) + ": a hold", x.position(2, 3), 1);
            A.due("of this view alone", x.position(1, 3), 0);
            A.due("it holds", x.replace(2, 1), 0);
        }
    }

    private static void isThePosition() {
        A.says("Promise 6", "It is the position then");
        PathCalls x = tree();
        to(x, 2, UNIQUE, 8);
        A.due("by 0", valueAt(x, 2), 80);
        x.get(2, NEXT);
        A.due("by 1", valueAt(x, 2), 90);
        to(x, 2, UNIQUE, 7);
        parts(x, 3);
        x.get(2, WITHIN);
        A.due("by 2", valueAt(x, 2), 100);
        A.due("another view's stays", valueAt(x, 1), 110);
    }

    private static void isTheParentage() {
        A.says("Promise 6", "by 0 and 1 the parentage, too");
        int[] calls = {UNIQUE, NEXT, UNIQUE + HOLD, NEXT + HOLD};
        for (int call : calls) {
            PathCalls x = tree();
            parts(x, 1, 2);
            x.get(2, call);
            A.due("call " + call, x.position(2, 2), 2);
            A.due("call " + call + ": what lies in it", x.within(2), 2);
            parts(x, 2, 4);
            x.get(2, call);
            A.due("call " + call, x.position(2, 2), 4);
            A.due("call " + call + ": another view's stays", x.position(1, 2), 0);
        }
    }

    private static void withinKeepsTheParentage() {
        A.says("Promise 6", "by 0 and 1 the parentage, too [by 2 not]");
        PathCalls x = tree();
        to(x, 2, UNIQUE, 1);
        for (int n = 2; n <= 6; n++) {
            A.due("within", x.get(2, n % 2 == 0 ? WITHIN : WITHIN + HOLD), 0);
            A.due("the root", x.position(2, 2), 1);
            A.due("the same root", x.within(2), 5);
        }
    }

    private static void codedParentage() {
        A.says("Promise 6", "unless a part has the code: then the segment of that part's kind that it is, or lies in");
        for (int call = UNIQUE; call <= NEXT; call++) {
            PathCalls x = tree();
            coded(x, 1, EQUAL, 7, PARENTAGE);
            parts(x, 4);
            dueFound("lies in, by " + call, x, 2, call, 0, 90);
            A.due("lies in, by " + call, x.position(2, 2), 1);
            A.due("lies in, by " + call, x.within(2), 3);
            x.part(1, EQUAL, 1);
            x.get(2, UNIQUE);
            parts(x, 1, 2);
            coded(x, 4, EQUAL, 9, PARENTAGE);
            dueFound("is, by " + call, x, 2, call, 0, 90);
            A.due("is, by " + call, x.position(2, 2), 4);
        }
    }

    private static void codedParentageByWithin() {
        A.says("Promise 6", "unless a part has the code: then (by 2 as well)");
        PathCalls x = tree();
        to(x, 2, UNIQUE, 1);
        coded(x, 2, ANY, 0, PARENTAGE);
        parts(x, 4);
        dueFound("below the parentage", x, 2, WITHIN, 0, 30);
        A.due("below the parentage", x.position(2, 2), 2);
        A.due("below the parentage", x.within(2), 2);
        coded(x, 4, ANY, 0, PARENTAGE);
        dueFound("what is found", x, 2, WITHIN, 0, 40);
        A.due("what is found", x.position(2, 2), 4);
        to(x, 2, UNIQUE, 8);
        coded(x, 1, ANY, 0, PARENTAGE);
        parts(x, 4);
        dueFound("above the parentage", x, 2, WITHIN, 0, 90);
        A.due("above the parentage", x.position(2, 2), 1);
        A.due("above the parentage", x.within(2), 3);
    }

    private static void lastCodeCounts() {
        A.says("Promise 6", "(the last such part counts)");
        int[][] codesAndKinds = {{4, 0, 0, 1}, {4, 4, 0, 2}, {4, 4, 4, 4}, {0, 4, 0, 2}, {0, 4, 4, 4},
            {4, 0, 4, 4}, {12, 8, 8, 1}, {0, 0, 0, 4}};
        for (int[] row : codesAndKinds) {
            for (int call = UNIQUE; call <= WITHIN; call++) {
                PathCalls x = tree();
                to(x, 2, UNIQUE, 7);
                coded(x, 1, ANY, 0, row[0]);
                coded(x, 2, GREATER, 5, row[1]);
                coded(x, 4, ANY, 0, row[2]);
                String when = "codes " + row[0] + ", " + row[1] + ", " + row[2];
                dueFound(when, x, 2, call, 0, 90);
                boolean stays = call == WITHIN && row[0] + row[1] + row[2] == 0;
                A.due(when + " by " + call, x.position(2, 2), stays ? 1 : row[3]);
            }
        }
    }

    private static void statusThree() {
        A.says("Promise 6", "3, 4 by NEXT without parts: 3 done, on a lesser level than the position was");
        int[] calls = {NEXT, NEXT + HOLD};
        for (int next : calls) {
            PathCalls x = tree();
            to(x, 2, UNIQUE, 4);
            dueFound("from level 3 to 2, the kind above", x, 2, next, 3, 50);
            to(x, 2, UNIQUE, 6);
            dueFound("from level 2 to 1", x, 2, next, 3, 70);
            to(x, 2, UNIQUE, 9);
            dueFound("from level 3 to 2, another kind", x, 2, next, 3, 100);
            A.due("a hold", x.position(2, 3), next == NEXT ? 0 : 1);
        }
        PathCalls y = ofKinds(true, 0, 1, 2, 3, 4, 5, 6, 7);
        put(y, 1, 1, 2, 2);
        put(y, 1, 1, 1, 1);
        for (int kind = 2; kind <= 8; kind++) {
            put(y, 1, kind, 1, 10);
        }
        dueFound("from level 8 to 1", y, 1, NEXT, 3, 2);
    }

    private static void statusFour() {
        A.says("Promise 6", "3, 4 by NEXT without parts: 4 done, of another kind on the same level");
        int[] calls = {NEXT, NEXT + HOLD};
        for (int next : calls) {
            PathCalls x = tree();
            to(x, 2, UNIQUE, 5);
            dueFound("from kind 2 to kind 3", x, 2, next, 4, 60);
            A.due("a hold", x.position(2, 3), next == NEXT ? 0 : 1);
        }
    }

    private static void noSteppingStatus() {
        A.says("Promise 6", "Statuses 0 ..; 3, 4 by NEXT without parts [else 0]");
        PathCalls x = tree();
        to(x, 2, UNIQUE, 1);
        dueFound("one level down", x, 2, NEXT, 0, 20);
        to(x, 2, UNIQUE, 3);
        dueFound("of the same kind", x, 2, NEXT, 0, 40);
        parts(x, 2);
        dueFound("on a lesser level, with parts", x, 2, NEXT, 0, 50);
        parts(x, 3);
        dueFound("of another kind, with parts", x, 2, NEXT, 0, 60);
        to(x, 2, UNIQUE, 9);
        dueFound("on a lesser level, by UNIQUE", x, 2, UNIQUE, 0, 10);
        to(x, 2, UNIQUE, 1);
        to(x, 2, WITHIN, 4);
        dueFound("on a lesser level, by NEXT WITHIN", x, 2, WITHIN, 0, 50);
        dueFound("of another kind, by NEXT WITHIN", x, 2, WITHIN, 0, 60);
        to(x, 1, UNIQUE, 10);
        dueFound("it is the view's own position that counts", x, 2, NEXT, 3, 70);
    }

    private static void steppingFromNone() {
        A.says("Promise 6", "3, 4 by NEXT without parts, if there was a position");
        PathCalls x = tree();
        dueFound("a new view", x, 2, NEXT, 0, 10);
        to(x, 2, UNIQUE, 9);
        x.part(4, GREATER, 9);
        A.due("to the end, from level 3", x.get(2, NEXT), 2);
        dueFound("from the end", x, 2, NEXT, 0, 10);
        PathCalls y = ofKinds(true, 0);
        put(y, 1, 1, 1, 1);
        put(y, 1, 1, 2, 2);
        y.get(1, HOLD);
        y.delete(1);
        dueFound("from ahead of all, by a delete", y, 1, NEXT, 0, 2);
    }

    private static PathCalls at8(int call) {
        PathCalls x = tree();
        coded(x, 1, EQUAL, 7, PARENTAGE + PATH);
        parts(x, 2);
        x.get(2, call);
        return x;
    }

    private static void notFound() {
        A.says("Promise 6", "1: by 0 and 2 nothing is found: all stays, but the hold");
        int[] calls = {UNIQUE, WITHIN, UNIQUE + HOLD, WITHIN + HOLD};
        for (int call : calls) {
            PathCalls x = at8(HOLD);
            coded(x, 4, GREATER, 9, PARENTAGE + PATH);
            A.due("by " + call, x.get(2, call), 1);
            A.dueState("by " + call, x, at8(UNIQUE));
            A.due("the position stays", valueAt(x, 2), 80);
        }
    }

    private static void theEnd() {
        A.says("Promise 6", "2: by 1: the position is none then, ahead of all");
        int[] calls = {NEXT, NEXT + HOLD};
        for (int call : calls) {
            PathCalls x = at8(HOLD);
            coded(x, 4, GREATER, 9, PARENTAGE + PATH);
            A.due("by " + call, x.get(2, call), 2);
            A.duePosition("none, and no hold", x, 2, 0, 0, 1, 0);
            duePath("the way to what was found stays", x, 70, 80);
            A.due("no position to insert below", put(x, 2, 2, 1, 1), 1);
            dueFound("ahead of all", x, 2, NEXT, 0, 10);
        }
        PathCalls y = tree();
        A.due("without parts, from the last", y.get(1, NEXT), 2);
        A.duePosition("none", y, 1, 0, 0, 0, 0);
        A.duePosition("another view's stays", y, 2, 0, 0, 0, 0);
    }

    private static void takesTheHold() {
        A.says("Promise 6", "Any get takes the hold that there was");
        int[][] callsAndKeys = {{UNIQUE, 3}, {NEXT, 9}, {WITHIN, 9}, {UNIQUE, 0}, {NEXT, 0}, {WITHIN, 0},
            {UNIQUE + HOLD, 0}, {NEXT + HOLD, 0}, {WITHIN + HOLD, 0}, {3, 9}, {7, 9}, {-1, 9}, {MAX, 9}, {MIN, 9}};
        for (int[] row : callsAndKeys) {
            PathCalls x = tree();
            to(x, 1, HOLD, 5);
            to(x, 2, HOLD, 8);
            A.due("a hold", x.position(2, 3), 1);
            x.part(4, EQUAL, row[1]);
            x.get(2, row[0]);
            A.due("taken by " + row[0], x.position(2, 3), 0);
            A.due("no replace then", x.replace(2, 1), 8);
            A.due("another view's stays", x.replace(1, 1), 0);
        }
        PathCalls y = tree();
        to(y, 2, HOLD, 8);
        parts(y, 1, 1);
        A.due("parts that don't fit", y.get(2, HOLD), 6);
        A.due("take it, too", y.delete(2), 8);
    }

    private static void noParentage() {
        A.says("Promise 6", "Statuses .. 5 [no parentage]");
        PathCalls x = tree();
        int[] calls = {WITHIN, WITHIN + HOLD};
        for (int call : calls) {
            A.due("a new view, by " + call, x.get(2, call), 5);
            A.due("an insert makes none, by " + call, x.get(1, call), 5);
            parts(x, 4);
            A.due("with parts, by " + call, x.get(1, call), 5);
            coded(x, 1, ANY, 0, PARENTAGE);
            A.due("a code makes none, by " + call, x.get(1, call), 5);
        }
        A.dueState("all stays", x, tree());
    }

    private static void partsThatDoNotFit() {
        A.says("Promise 6", "Statuses .. 6 [parts don't fit]");
        int[] calls = {UNIQUE, NEXT, WITHIN, UNIQUE + HOLD, NEXT + HOLD, WITHIN + HOLD};
        for (int call : calls) {
            PathCalls x = at8(UNIQUE);
            parts(x, 2, 1);
            A.due("the other way round, by " + call, x.get(2, call), 6);
            parts(x, 2, 2);
            A.due("twice one kind, by " + call, x.get(2, call), 6);
            parts(x, 1, 3, 4);
            A.due("the last one alone, by " + call, x.get(2, call), 6);
            A.dueState("all stays", x, at8(UNIQUE));
        }
    }

    private static void otherCalls() {
        A.says("Promise 6", "6 also for other calls than these");
        int[] calls = {-1, -2, -3, -4, 3, 7, 8, 9, 10, 11, 12, MAX, MAX - 1, MIN, MIN + 4, MIN + 5};
        PathCalls x = at8(UNIQUE);
        for (int call : calls) {
            A.due("call " + call, x.get(2, call), 6);
            parts(x, 1);
            A.due("call " + call + ", with parts", x.get(2, call), 6);
        }
        A.dueState("all stays", x, at8(UNIQUE));
        A.due("in an empty base", ofKinds(true, 0).get(1, 3), 6);
    }

    private static void pathOnItsOwnLevel() {
        A.says("Promise 7", "The value of the segment on a level .. on its own level");
        PathCalls x = tree();
        to(x, 2, UNIQUE, 7);
        duePath("level 1", x, 70);
        to(x, 2, UNIQUE, 6);
        duePath("level 2", x, 0, 60);
        to(x, 2, UNIQUE, 9);
        duePath("level 3", x, 0, 0, 90);
        x.get(2, UNIQUE);
        duePath("without parts", x, 10);
        PathCalls y = ofKinds(true, 0, 1, 2, 3, 4, 5, 6, 7);
        for (int kind = 1; kind <= 8; kind++) {
            put(y, 1, kind, 1, Long.MAX_VALUE - kind);
        }
        y.part(8, ANY, 0);
        y.get(2, UNIQUE);
        duePath("level 8, all 64 bits", y, 0, 0, 0, 0, 0, 0, 0, Long.MAX_VALUE - 8);
    }

    private static void pathOfParts() {
        A.says("Promise 7", "and those of parts with PATH");
        int[][] codes = {{0, 0, 0}, {8, 0, 0}, {0, 8, 0}, {8, 8, 0}, {8, 8, 8}, {0, 0, 8}, {4, 4, 4}, {12, 4, 0}};
        for (int[] row : codes) {
            for (int call = UNIQUE; call <= WITHIN; call++) {
                PathCalls x = tree();
                to(x, 2, UNIQUE, 7);
                coded(x, 1, EQUAL, 7, row[0]);
                coded(x, 2, ANY, 0, row[1]);
                coded(x, 4, ANY, 0, row[2]);
                A.due("get", x.get(2, call), 0);
                duePath("codes " + row[0] + ", " + row[1] + ", " + row[2] + " by " + call, x,
                    (row[0] & PATH) != 0 ? 70 : 0, (row[1] & PATH) != 0 ? 80 : 0, 90);
            }
        }
        PathCalls y = ofKinds(true, 0, 1, 2, 3, 4, 5, 6, 7);
        for (int kind = 1; kind <= 8; kind++) {
            put(y, 1, kind, 1, -kind);
        }
        for (int kind = 1; kind <= 8; kind++) {
            coded(y, kind, ANY, 0, PATH);
        }
        y.get(2, UNIQUE);
        duePath("eight parts", y, -1, -2, -3, -4, -5, -6, -7, -8);
    }

    private static void pathOfOtherLevels() {
        A.says("Promise 7", "0 for others");
        int[] others = {0, -1, 9, 10, MAX, MIN};
        PathCalls x = tree();
        for (int level : others) {
            A.due("ahead of any get: segment(" + level + ")", x.segment(level), 0);
        }
        duePath("ahead of any get", x);
        coded(x, 1, ANY, 0, PATH);
        coded(x, 2, ANY, 0, PATH);
        coded(x, 4, ANY, 0, PATH);
        x.get(2, UNIQUE);
        for (int level : others) {
            A.due("behind a get: segment(" + level + ")", x.segment(level), 0);
        }
        duePath("levels below it", x, 10, 20, 30);
    }

    private static void pathOfTheLatestFound() {
        A.says("Promise 7", "found by the latest get() that found one");
        PathCalls x = at8(UNIQUE);
        duePath("found", x, 70, 80);
        coded(x, 1, EQUAL, 99, PATH);
        x.get(2, UNIQUE);
        duePath("status 1", x, 70, 80);
        coded(x, 1, EQUAL, 99, PATH);
        x.get(2, NEXT);
        duePath("status 2", x, 70, 80);
        x.get(2, 3);
        duePath("status 6", x, 70, 80);
        x.get(3, UNIQUE);
        duePath("NONE", x, 70, 80);
        x.get(1, WITHIN);
        duePath("status 5", x, 70, 80);
        put(x, 2, 1, 99, 99);
        duePath("an insert is no get", x, 70, 80);
        to(x, 2, UNIQUE, 6);
        duePath("a later one leaves nothing of it", x, 0, 60);
    }

    private static void pathOfAnyView() {
        A.says("Promise 7", "(any view)");
        PathCalls x = at8(UNIQUE);
        to(x, 1, UNIQUE, 6);
        duePath("view 1, behind view 2", x, 0, 60);
        to(x, 2, UNIQUE, 3);
        duePath("view 2 again", x, 0, 0, 30);
    }

    private static void pathAsItWas() {
        A.says("Promise 7", "As it was then");
        PathCalls x = at8(HOLD);
        x.replace(2, 800);
        duePath("ahead of its replace", x, 70, 80);
        PathCalls y = tree();
        to(y, 1, HOLD, 7);
        coded(y, 1, EQUAL, 7, PATH);
        parts(y, 2);
        y.get(2, UNIQUE);
        y.replace(1, 700);
        duePath("ahead of the replace of what it lies in", y, 70, 80);
        to(y, 1, HOLD, 7);
        coded(y, 1, EQUAL, 7, PATH);
        parts(y, 2);
        y.get(2, UNIQUE);
        y.delete(1);
        duePath("ahead of its delete", y, 700, 80);
    }
}
