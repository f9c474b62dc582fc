/** Edges that promises 1 to 5 and 14 name: a new object, kind, view, part, code, rule. */
public final class EdgesOfMakingTest extends Bases {
    private static final Answers A = new Answers("EdgesOfMakingTest");
    private static final int MAX = Integer.MAX_VALUE;
    private static final int MIN = Integer.MIN_VALUE;

    public static void main(String[] args) {
        noKinds();
        noSegments();
        noViews();
        kindNumbers();
        kindOfRuleOne();
        kindIsUnique();
        kindAboveNone();
        kindZeroOnce();
        kindBelowLevelEight();
        kindsAtMostTwenty();
        refusedKinds();
        viewNumbers();
        viewsAtMostNine();
        partsAreCounted();
        partOfNoKind();
        partOfNoRelation();
        partsAtMostEight();
        refusedParts();
        codesThatItHad();
        codeOfNoPart();
        noSuchCodes();
        codesOfPartsThatAreGone();
        ruleThatItWas();
        ruleOfNoKind();
        noSuchRule();
        ruleMovesNone();
        ruleOfAUniqueKind();
        A.end();
    }

    private static void noKinds() {
        A.says("Promise 1", "No kinds");
        PathCalls x = new PathCalls();
        for (int kind = 0; kind <= 20; kind++) {
            A.due("part of kind " + kind, x.part(kind, ANY, 0), -1);
            A.due("rule of kind " + kind, x.rule(kind, 1), -1);
        }
        A.due("no kind to be above", x.kind(1, true), -1);
        A.due("the first one", x.kind(0, true), 1);
    }

    private static void noSegments() {
        A.says("Promise 1", "no segments");
        PathCalls x = new PathCalls();
        A.dueValues("a new object", x);
        for (int level = 0; level <= 9; level++) {
            A.due("segment(" + level + ")", x.segment(level), 0);
        }
        x.view();
        A.due("UNIQUE", x.get(1, UNIQUE), 1);
        A.due("NEXT", x.get(1, NEXT), 2);
    }

    private static void noViews() {
        A.says("Promise 1", "no views");
        PathCalls x = new PathCalls();
        for (int view = 0; view <= 9; view++) {
            A.due("get of view " + view, x.get(view, UNIQUE), -1);
            A.due("insert of view " + view, x.insert(view, 1, 1), -1);
            A.due("replace of view " + view, x.replace(view, 1), -1);
            A.due("delete of view " + view, x.delete(view), -1);
            A.due("position of view " + view, x.position(view, 0), -1);
            A.due("within of view " + view, x.within(view), -1);
        }
        PathCalls y = tree();
        A.due("another object's kinds are its own", x.kind(1, true), -1);
        A.due("another object's views are its own", x.view(), 1);
        A.due("another object's segments are its own", x.count(), 0);
        A.due("there are some", y.count(), 11);
    }

    private static void kindNumbers() {
        A.says("Promise 2", "A new kind directly below another one (above = 0: the root): its number");
        PathCalls x = ofKinds(true);
        int[] aboves = {0, 1, 1, 2, 3, 1};
        for (int i = 0; i < aboves.length; i++) {
            A.due("below " + aboves[i], x.kind(aboves[i], true), i + 1);
        }
        int[][] kindsAndLevels = {{1, 1}, {2, 2}, {4, 3}, {3, 2}, {5, 3}, {6, 2}};
        for (int[] row : kindsAndLevels) {
            A.due("a segment of kind " + row[0], put(x, 1, row[0], 1, 1), 0);
            A.due("its kind", x.position(1, 0), row[0]);
            A.due("its level", x.position(1, 1), row[1]);
        }
        A.due("kind 4 lies below 2, not below 6", put(x, 1, 4, 2, 2), 1);
    }

    private static void kindOfRuleOne() {
        A.says("Promise 2", "of rule 1");
        PathCalls x = ofKinds(false, 0);
        put(x, 1, 1, 5, 1);
        put(x, 1, 1, 5, 2);
        put(x, 1, 1, 5, 3);
        A.dueValues("new ones behind equal ones", x, 1, 2, 3);
        PathCalls y = ofKinds(true, 0, 1);
        A.due("the root, unique", y.rule(1, 1), 1);
        A.due("a kind below it", y.rule(2, 1), 1);
        y.rule(1, 2);
        A.due("one more", y.kind(1, false), 3);
        A.due("whatever other kinds' rules are", y.rule(3, 0), 1);
    }

    private static void kindIsUnique() {
        A.says("Promise 2", "kind(above, unique)");
        PathCalls x = ofKinds(true, 0);
        x.kind(1, false);
        x.kind(1, true);
        put(x, 1, 1, 1, 1);
        A.due("unique", put(x, 1, 1, 1, 2), 7);
        put(x, 1, 2, 1, 3);
        A.due("not unique", put(x, 1, 2, 1, 4), 0);
        put(x, 1, 3, 1, 5);
        A.due("unique", put(x, 1, 3, 1, 6), 7);
    }

    private static void kindAboveNone() {
        A.says("Promise 2", "NONE when above is no kind");
        int[] wrong = {-1, 1, 2, 20, MAX, MIN};
        PathCalls x = new PathCalls();
        for (int above : wrong) {
            A.due("the first one below " + above, x.kind(above, true), -1);
        }
        A.due("the root", x.kind(0, true), 1);
        int[] wrongLater = {-1, 2, 3, 20, 21, MAX, MIN};
        for (int above : wrongLater) {
            A.due("the second one below " + above, x.kind(above, true), -1);
        }
        A.due("below the root", x.kind(1, true), 2);
    }

    private static void kindZeroOnce() {
        A.says("Promise 2", "(0 only for the first one)");
        PathCalls x = new PathCalls();
        A.due("the first one", x.kind(0, false), 1);
        A.due("no second root", x.kind(0, false), -1);
        A.due("no second root, unique", x.kind(0, true), -1);
        x.kind(1, true);
        A.due("nor later", x.kind(0, true), -1);
        A.due("the next number is free still", x.kind(1, true), 3);
    }

    private static void kindBelowLevelEight() {
        A.says("Promise 2", "NONE when above is on level 8");
        PathCalls x = new PathCalls();
        for (int kind = 1; kind <= 8; kind++) {
            A.due("on level " + kind, x.kind(kind - 1, true), kind);
        }
        A.due("on level 9", x.kind(8, true), -1);
        A.due("a second one on level 8", x.kind(7, true), 9);
        A.due("on level 9 below that", x.kind(9, true), -1);
        A.due("a second one on level 2", x.kind(1, true), 10);
        x.view();
        for (int kind = 1; kind <= 8; kind++) {
            A.due("a segment on level " + kind, put(x, 1, kind, 1, kind), 0);
        }
        A.due("the second kind on level 8", put(x, 1, 9, 1, 9), 0);
        A.due("level 8", x.position(1, 1), 8);
    }

    private static void kindsAtMostTwenty() {
        A.says("Promise 2", "NONE when there are 20");
        PathCalls x = new PathCalls();
        x.kind(0, true);
        for (int kind = 2; kind <= 20; kind++) {
            A.due("kind " + kind, x.kind(kind % 7 == 1 ? kind - 1 : 1, true), kind);
        }
        for (int above = 0; above <= 21; above++) {
            A.due("a 21st below " + above, x.kind(above, true), -1);
        }
        A.due("the 20th is there", x.part(20, ANY, 0), 1);
        A.due("the 20th is there", x.rule(20, 1), 1);
        A.due("no 21st is", x.part(21, ANY, 0), -1);
        A.due("no 21st is", x.rule(21, 1), -1);
        x.view();
        A.due("the part goes", x.get(1, UNIQUE), 1);
        put(x, 1, 1, 1, 1);
        A.due("a segment of the 20th", put(x, 1, 20, 2, 2), 0);
        A.due("its kind", x.order(1, 0), 20);
    }

    private static void refusedKinds() {
        A.says("Promises 2 and 13", "refused calls change nothing");
        int[] wrong = {-1, 0, 5, MAX, MIN};
        for (int above : wrong) {
            PathCalls x = tree();
            A.due("kind below " + above, x.kind(above, true), -1);
            A.dueState("kind below " + above, x, tree());
            A.due("the next number", x.kind(1, true), 5);
        }
    }

    private static void viewNumbers() {
        A.says("Promise 3", "A new view: its number");
        PathCalls x = new PathCalls();
        for (int view = 1; view <= 9; view++) {
            A.due("not there yet", x.position(view, 0), -1);
            A.due("view " + view, x.view(), view);
            A.duePosition("view " + view, x, view, 0, 0, 0, 0);
        }
    }

    private static PathCalls nineViews() {
        PathCalls x = tree();
        for (int view = 3; view <= 9; view++) {
            x.view();
            to(x, view, HOLD, view);
        }
        return x;
    }

    private static void viewsAtMostNine() {
        A.says("Promise 3", "NONE when there are 9");
        PathCalls x = nineViews();
        A.due("a tenth", x.view(), -1);
        A.due("once more", x.view(), -1);
        A.dueState("refused views change nothing", x, nineViews());
        A.due("no view 10", x.get(10, UNIQUE), -1);
        A.due("view 9 is there", x.replace(9, 99), 0);
    }

    private static void partsAreCounted() {
        A.says("Promise 4", "One more part: how many there are");
        PathCalls x = tree();
        A.due("one", x.part(1, ANY, 0), 1);
        A.due("two", x.part(2, ANY, 0), 2);
        A.due("three", x.part(4, ANY, 0), 3);
        x.get(2, UNIQUE);
        A.due("one again", x.part(1, ANY, 0), 1);
        x.insert(2, 50, 50);
        A.due("one again", x.part(1, ANY, 0), 1);
    }

    private static void partOfNoKind() {
        A.says("Promise 4", "NONE when there is no such kind");
        PathCalls x = tree();
        int[] wrong = {0, -1, 5, 20, 21, MAX, MIN};
        for (int kind : wrong) {
            A.due("kind " + kind, x.part(kind, ANY, 0), -1);
        }
        A.due("kind 4", x.part(4, ANY, 0), 1);
        x.kind(1, true);
        A.due("kind 5, when there is one", x.part(5, ANY, 0), 2);
    }

    private static void partOfNoRelation() {
        A.says("Promise 4", "NONE when there is no such .. relation");
        PathCalls x = tree();
        int[] wrong = {-1, 7, 8, 16, MAX, MIN};
        for (int op : wrong) {
            A.due("relation " + op, x.part(1, op, 1), -1);
        }
        for (int op = 0; op <= 6; op++) {
            A.due("relation " + op, x.part(1, op, 1), op + 1);
        }
    }

    private static void partsAtMostEight() {
        A.says("Promise 4", "NONE when there are 8");
        PathCalls x = ofKinds(true, 0, 1, 2, 3, 4, 5, 6, 7);
        for (int kind = 1; kind <= 8; kind++) {
            put(x, 1, kind, kind, 10 * kind);
        }
        for (int kind = 1; kind <= 8; kind++) {
            A.due("part " + kind, x.part(kind, EQUAL, kind), kind);
        }
        A.due("a ninth", x.part(8, EQUAL, 99), -1);
        A.due("once more", x.part(8, EQUAL, 99), -1);
        A.due("no ninth is there", x.code(9, 0), -1);
        A.due("the eighth is there", x.code(8, 0), 0);
        A.due("eight parts fit", x.get(2, UNIQUE), 0);
        A.due("level 8", x.segment(8), 80);
        A.due("then there is room again", x.part(8, ANY, 0), 1);
    }

    private static PathCalls twoParts() {
        PathCalls x = tree();
        coded(x, 1, EQUAL, 7, PATH);
        coded(x, 2, ANY, 0, PARENTAGE);
        return x;
    }

    private static void refusedParts() {
        A.says("Promises 4 and 13", "refused calls change nothing");
        PathCalls x = twoParts();
        A.due("no such kind", x.part(5, ANY, 9), -1);
        A.due("no such relation", x.part(4, 7, 9), -1);
        A.due("neither", x.part(0, -1, 9), -1);
        A.dueState("three refused parts", x, twoParts());
        A.due("the parts tell what they told", x.get(2, UNIQUE), 0);
        A.due("root 7", x.segment(1), 70);
        A.due("the 2 in it", x.segment(2), 80);
    }

    private static void codesThatItHad() {
        A.says("Promise 5", "A part (1, 2, ..) gets codes 0 .. 15: what it had");
        PathCalls x = tree();
        parts(x, 1, 2);
        int had = 0;
        for (int codes = 0; codes <= 15; codes++) {
            A.due("part 1 gets " + codes, x.code(1, codes), had);
            had = codes;
        }
        A.due("part 1 gets 0", x.code(1, 0), 15);
        A.due("part 1 gets 5", x.code(1, 5), 0);
        A.due("part 2 has its own", x.code(2, 9), 0);
        A.due("part 2", x.code(2, 0), 9);
        A.due("part 1", x.code(1, 0), 5);
    }

    private static void codeOfNoPart() {
        A.says("Promise 5", "NONE when there is none such [part]");
        PathCalls x = twoParts();
        int[] wrong = {0, -1, 3, 8, 9, MAX, MIN};
        for (int part : wrong) {
            A.due("part " + part, x.code(part, 1), -1);
        }
        A.dueState("refused codes change nothing", x, twoParts());
        A.due("without parts", tree().code(1, 1), -1);
    }

    private static void noSuchCodes() {
        A.says("Promise 5", "NONE when there is none such [codes]");
        PathCalls x = twoParts();
        int[] wrong = {-1, 16, 17, 31, MAX, MIN};
        for (int codes : wrong) {
            A.due("codes " + codes, x.code(1, codes), -1);
            A.due("codes " + codes, x.code(2, codes), -1);
        }
        A.dueState("refused codes change nothing", x, twoParts());
    }

    private static void codesOfPartsThatAreGone() {
        A.says("Promise 5", "NONE when there is none such [part: they went with a get]");
        PathCalls x = twoParts();
        x.get(2, UNIQUE);
        A.due("part 1 is gone", x.code(1, 1), -1);
        A.due("part 2 is gone", x.code(2, 1), -1);
        parts(x, 1);
        A.due("a new one has no codes", x.code(1, 0), 0);
        A.due("part 2 is gone still", x.code(2, 0), -1);
        parts(x, 2);
        A.due("a new one has no codes", x.code(2, 0), 0);
    }

    private static void ruleThatItWas() {
        A.says("Promise 14", "A kind's rule becomes r: what it was");
        PathCalls x = ofKinds(false, 0, 1);
        int was = 1;
        int[] rules = {0, 0, 1, 1, 2, 2, 0, 2, 1, 0};
        for (int r : rules) {
            A.due("rule(1, " + r + ")", x.rule(1, r), was);
            was = r;
        }
        A.due("the other kind has its own", x.rule(2, 2), 1);
        A.due("the other kind has its own", x.rule(1, 1), 0);
    }

    private static void ruleOfNoKind() {
        A.says("Promise 14", "NONE when there is no such kind");
        PathCalls x = tree();
        int[] wrong = {0, -1, 5, 20, 21, MAX, MIN};
        for (int kind : wrong) {
            A.due("kind " + kind, x.rule(kind, 0), -1);
        }
        A.dueState("refused rules change nothing", x, tree());
        A.due("the last kind", x.rule(4, 0), 1);
    }

    private static void noSuchRule() {
        A.says("Promise 14", "NONE when there is no such .. rule");
        PathCalls x = tree();
        int[] wrong = {-1, 3, 4, MAX, MIN};
        for (int r : wrong) {
            A.due("rule " + r, x.rule(1, r), -1);
        }
        A.dueState("refused rules change nothing", x, tree());
    }

    private static void ruleMovesNone() {
        A.says("Promise 14, Terms", "equal ones stand as they came by the kind's RULE");
        PathCalls x = ofKinds(false, 0);
        put(x, 1, 1, 5, 1);
        put(x, 1, 1, 5, 2);
        x.rule(1, 0);
        A.dueValues("those that are there stay", x, 1, 2);
        put(x, 1, 1, 5, 3);
        A.dueValues("by rule 0", x, 3, 1, 2);
        x.rule(1, 1);
        put(x, 1, 1, 5, 4);
        A.dueValues("by rule 1", x, 3, 1, 2, 4);
        x.rule(1, 2);
        put(x, 1, 1, 5, 5);
        A.dueValues("by rule 2", x, 3, 1, 2, 5, 4);
    }

    private static void ruleOfAUniqueKind() {
        A.says("Promise 14, Terms", "Keys of twins of a UNIQUE kind differ; else [the RULE]");
        for (int r = 0; r <= 2; r++) {
            PathCalls x = ofKinds(true, 0);
            x.rule(1, r);
            put(x, 1, 1, 5, 1);
            A.due("by rule " + r, put(x, 1, 1, 5, 2), 7);
            A.due("by rule " + r, put(x, 1, 1, 6, 3), 0);
            A.due("by rule " + r, put(x, 1, 1, 4, 4), 0);
            A.dueValues("by rule " + r, x, 4, 1, 3);
        }
    }
}
