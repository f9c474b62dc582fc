/** Promises 1 to 5 and 14: a new object, kind, view, part, code, rule. */
public final class MakingTest {
    private static final Answers A = new Answers("MakingTest");

    public static void main(String[] args) {
        newObject();
        kinds();
        kindsOnLevels();
        twentyKinds();
        views();
        parts();
        partsStayOrGo();
        codes();
        rules();
        A.end();
    }

    private static void newObject() {
        PathCalls x = new PathCalls();
        A.due("1: count", x.count(), 0);
        A.due("1: order", x.order(0, 0), -1);
        A.due("1: no kind for a part", x.part(1, 0, 0), -1);
        A.due("1: no kind for a rule", x.rule(1, 0), -1);
        A.due("1: no kind above", x.kind(1, false), -1);
        A.due("1: no part for a code", x.code(1, 0), -1);
        for (int view = -1; view <= 2; view++) {
            A.due("1: get", x.get(view, 0), -1);
            A.due("1: insert", x.insert(view, 1, 1), -1);
            A.due("1: replace", x.replace(view, 1), -1);
            A.due("1: delete", x.delete(view), -1);
            A.due("1: position", x.position(view, 0), -1);
            A.due("1: within", x.within(view), -1);
        }
        for (int level = -1; level <= 9; level++) {
            A.due("1: segment", x.segment(level), 0);
        }
        PathCalls y = new PathCalls();
        x.kind(0, true);
        x.view();
        A.due("1: an object of its own", y.kind(0, true), 1);
        A.due("1: a view of its own", y.view(), 1);
    }

    private static void kinds() {
        PathCalls x = new PathCalls();
        A.due("2: above -1", x.kind(-1, true), -1);
        A.due("2: above itself", x.kind(1, true), -1);
        A.due("2: the root", x.kind(0, true), 1);
        A.due("2: no second root", x.kind(0, true), -1);
        A.due("2: below the root", x.kind(1, true), 2);
        A.due("2: no such kind", x.kind(3, true), -1);
        A.due("2: far off", x.kind(Integer.MAX_VALUE, true), -1);
        A.due("2: far off", x.kind(Integer.MIN_VALUE, true), -1);
        A.due("2: a refused one took no number", x.kind(1, true), 3);
        for (int kind = 1; kind <= 3; kind++) {
            A.due("2: of rule 1", x.rule(kind, 1), 1);
        }
    }

    private static void kindsOnLevels() {
        PathCalls x = new PathCalls();
        x.view();
        for (int kind = 1; kind <= 8; kind++) {
            A.due("2: level " + kind, x.kind(kind - 1, false), kind);
            x.part(kind, 0, 0);
            A.due("2: insert on level " + kind, x.insert(1, 5, 10 + kind), 0);
            A.due("2: its level", x.position(1, 1), kind);
        }
        A.due("2: no level 9", x.kind(8, false), -1);
        A.due("2: on level 8 again", x.kind(7, false), 9);
        A.due("2: no level 9 below that", x.kind(9, false), -1);
        x.part(9, 0, 0);
        A.due("2: the parent's kind is the one given", x.insert(1, 1, 1), 0);
        A.due("2: level 8", x.position(1, 1), 8);
    }

    private static void twentyKinds() {
        PathCalls x = new PathCalls();
        for (int kind = 1; kind <= 20; kind++) {
            A.due("2: kind " + kind, x.kind(kind == 1 ? 0 : 1, true), kind);
        }
        A.due("2: no 21st", x.kind(1, true), -1);
        A.due("2: part of the 20th", x.part(20, 0, 0), 1);
        A.due("2: rule of the 20th", x.rule(20, 0), 1);
        A.due("2: part of a 21st", x.part(21, 0, 0), -1);
        A.due("2: rule of a 21st", x.rule(21, 0), -1);
    }

    private static void views() {
        PathCalls x = new PathCalls();
        for (int view = 1; view <= 9; view++) {
            A.due("3: not yet a view", x.position(view, 0), -1);
            A.due("3: view", x.view(), view);
            A.duePosition("3: a new view", x, view, 0, 0, 0, 0);
        }
        A.due("3: no 10th", x.view(), -1);
        A.due("3: no 10th", x.position(10, 0), -1);
        A.due("3: the 9th stays", x.get(9, 1), 2);
    }

    private static void parts() {
        PathCalls x = new PathCalls();
        x.kind(0, true);
        A.due("4: kind 0", x.part(0, 0, 0), -1);
        A.due("4: kind -1", x.part(-1, 0, 0), -1);
        A.due("4: kind 2", x.part(2, 0, 0), -1);
        A.due("4: relation -1", x.part(1, -1, 0), -1);
        A.due("4: relation 7", x.part(1, 7, 0), -1);
        A.due("4: far off", x.part(Integer.MAX_VALUE, Integer.MIN_VALUE, Long.MIN_VALUE), -1);
        for (int op = 0; op <= 6; op++) {
            A.due("4: relation " + op, x.part(1, op, Long.MAX_VALUE), op + 1);
        }
        A.due("4: the 8th", x.part(1, 0, 0), 8);
        A.due("4: no 9th", x.part(1, 0, 0), -1);
        A.due("4: the 8th is there", x.code(8, 0), 0);
    }

    private static void partsStayOrGo() {
        PathCalls x = new PathCalls();
        x.kind(0, true);
        x.view();
        x.part(1, 0, 0);
        A.due("4: get without a view", x.get(2, 0), -1);
        A.due("4: insert without a view", x.insert(2, 0, 0), -1);
        A.due("4: parts stay", x.part(1, 0, 0), 2);
        A.due("4: replace", x.replace(1, 0), 8);
        A.due("4: delete", x.delete(1), 8);
        A.due("4: parts stay by those", x.part(1, 0, 0), 3);
        A.due("4: status 6", x.get(1, 0), 6);
        A.due("4: parts go with a get", x.part(1, 0, 0), 1);
        A.due("4: a wrong call", x.get(1, 3), 6);
        A.due("4: parts go with that", x.part(1, 0, 0), 1);
        A.due("4: no parentage", x.get(1, 2), 5);
        A.due("4: parts go with that", x.part(1, 0, 0), 1);
        A.due("4: insert", x.insert(1, 1, 1), 0);
        A.due("4: parts go with an insert", x.part(1, 0, 0), 1);
        A.due("4: the key is there", x.insert(1, 1, 1), 7);
        A.due("4: parts go with that", x.part(1, 0, 0), 1);
    }

    private static void codes() {
        PathCalls x = new PathCalls();
        x.kind(0, true);
        x.view();
        A.due("5: no part", x.code(1, 1), -1);
        x.part(1, 0, 0);
        x.part(1, 0, 0);
        A.due("5: part 0", x.code(0, 1), -1);
        A.due("5: part -1", x.code(-1, 1), -1);
        A.due("5: part 3", x.code(3, 1), -1);
        A.due("5: codes -1", x.code(1, -1), -1);
        A.due("5: codes 16", x.code(1, 16), -1);
        A.due("5: far off", x.code(Integer.MIN_VALUE, Integer.MAX_VALUE), -1);
        A.due("5: none at first", x.code(1, 15), 0);
        A.due("5: what it had", x.code(1, 4), 15);
        A.due("5: not added to it", x.code(1, 0), 4);
        A.due("5: none again", x.code(1, 9), 0);
        A.due("5: the other one has its own", x.code(2, 0), 0);
        x.get(1, 0);
        A.due("5: gone with the get", x.code(1, 1), -1);
        x.part(1, 0, 0);
        A.due("5: a new part has none", x.code(1, 0), 0);
    }

    private static void rules() {
        PathCalls x = new PathCalls();
        x.kind(0, false);
        x.kind(1, false);
        A.due("14: kind 0", x.rule(0, 0), -1);
        A.due("14: kind 3", x.rule(3, 0), -1);
        A.due("14: rule -1", x.rule(1, -1), -1);
        A.due("14: rule 3", x.rule(1, 3), -1);
        A.due("14: what it was", x.rule(1, 0), 1);
        A.due("14: what it was", x.rule(1, 2), 0);
        A.due("14: what it was", x.rule(1, 2), 2);
        A.due("14: the other kind has its own", x.rule(2, 0), 1);
    }
}
