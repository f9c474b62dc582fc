import java.util.ArrayList;
import java.util.List;

/**
 * Many runs of calls, each answered by PathCalls and by a slow model that is held as trees of lists
 * and follows the document's sentences one by one. The runs are the same each time.
 */
public final class ModelTest {
    private static final Answers A = new Answers("ModelTest");
    private static final int RUNS = 1000;
    private static final int STEPS = 220;

    private long seed;
    private int run;
    private PathCalls x;
    private Model m;

    public static void main(String[] args) {
        for (int run = 0; run < RUNS; run++) {
            new ModelTest().compare(run);
        }
        A.end();
    }

    private int pick(int bound) {
        seed = seed * 6364136223846793005L + 1442695040888963407L;
        return (int) ((seed >>> 33) % bound);
    }

    private boolean oneIn(int bound) {
        return pick(bound) == 0;
    }

    private void compare(int run) {
        seed = run * 7919L + 1;
        pick(2);
        x = new PathCalls();
        m = new Model();
        this.run = run;
        int kinds = 1 + pick(6);
        for (int k = 0; k < kinds; k++) {
            int above = k == 0 ? 0 : 1 + pick(k);
            boolean unique = oneIn(3);
            due("kind", x.kind(above, unique), m.kind(above, unique));
        }
        int views = 1 + pick(3);
        for (int v = 0; v < views; v++) {
            due("view", x.view(), m.view());
        }
        for (int i = 0; i < STEPS; i++) {
            step(1 + pick(kinds), 1 + pick(views));
        }
        compareAll();
    }

    private void due(String call, long got, long want) {
        A.due("run " + run + ": " + call, got, want);
    }

    private void step(int kind, int view) {
        switch (pick(12)) {
            case 0:
                strayParts(kind);
                break;
            case 1: case 2: case 3:
                fittingParts(kind);
                getBy(view);
                break;
            case 4:
                getBy(view);
                break;
            case 5:
                fittingParts(kind);
                insertBy(view);
                break;
            case 6: case 7: case 8:
                due("part", x.part(kind, 0, 0), m.part(kind, 0, 0));
                insertBy(view);
                break;
            case 9:
                change(view);
                break;
            case 10: {
                int r = pick(4);
                int any = kind + pick(2);
                due("rule", x.rule(any, r), m.rule(any, r));
                break;
            }
            default:
                compareAll();
        }
    }

    private void strayParts(int kind) {
        int any = kind + (oneIn(4) ? 1 : 0);
        int op = pick(8);
        due("part", x.part(any, op, 1), m.part(any, op, 1));
        int place = pick(4);
        int c = pick(18) - 1;
        due("code", x.code(place, c), m.code(place, c));
    }

    /** Parts on the way to a kind, perhaps not all of them. */
    private void fittingParts(int kind) {
        List<Integer> way = new ArrayList<>();
        for (int k = kind; k != 0; k = m.aboves.get(k)) {
            if (k == kind || !oneIn(4)) {
                way.add(0, k);
            }
        }
        for (int k : way) {
            int op = oneIn(2) ? 0 : pick(7);
            int key = pick(4);
            int place = m.part(k, op, key);
            due("part", x.part(k, op, key), place);
            int c = oneIn(2) ? 0 : oneIn(2) ? 1 << pick(4) : pick(16);
            due("code", x.code(place, c), m.code(place, c));
        }
    }

    private void getBy(int view) {
        int any = view + (oneIn(40) ? 1 : 0);
        int call = oneIn(30) ? pick(12) - 2 : pick(3) + (oneIn(3) ? 4 : 0);
        due("get(" + any + ", " + call + ")", x.get(any, call), m.get(any, call));
        for (int level = 0; level <= 9; level++) {
            due("segment", x.segment(level), m.segment(level));
        }
    }

    private void insertBy(int view) {
        int any = view + (oneIn(40) ? 1 : 0);
        int key = pick(4);
        int value = pick(1000);
        due("insert", x.insert(any, key, value), m.insert(any, key, value));
    }

    private void change(int view) {
        int value = pick(1000);
        if (oneIn(3)) {
            due("delete", x.delete(view), m.delete(view));
        } else {
            due("replace", x.replace(view, value), m.replace(view, value));
        }
    }

    private void compareAll() {
        List<Node> all = m.all();
        due("count", x.count(), all.size());
        for (int i = -1; i <= all.size(); i++) {
            for (int what = -1; what <= 4; what++) {
                due("order " + i + ", " + what, x.order(i, what), m.order(i, what));
            }
        }
        for (int view = 0; view <= m.views.size() + 1; view++) {
            for (int what = -1; what <= 4; what++) {
                due("position", x.position(view, what), m.position(view, what));
            }
            due("within", x.within(view), m.within(view));
        }
        for (int level = 0; level <= 9; level++) {
            due("segment", x.segment(level), m.segment(level));
        }
    }

    private static final class Node {
        int kind;
        long key;
        long value;
        Node parent;
        /** One list of twins for each kind; 0 is not used. */
        final List<List<Node>> children = new ArrayList<>();

        Node() {
            for (int i = 0; i <= 20; i++) {
                children.add(new ArrayList<>());
            }
        }

        void collect(List<Node> into) {
            for (List<Node> twins : children) {
                for (Node child : twins) {
                    into.add(child);
                    child.collect(into);
                }
            }
        }
    }

    private static final class Asker {
        Node position;
        Node parentage;
        boolean hold;
    }

    private static final class Told {
        int kind;
        int op;
        long key;
        int codes;
    }

    /** The root's twins are the children of one node that is no segment. */
    private static final class Model {
        final List<Integer> aboves = new ArrayList<>(List.of(0));
        final List<Boolean> uniques = new ArrayList<>(List.of(false));
        final List<Integer> rules = new ArrayList<>(List.of(0));
        final List<Asker> views = new ArrayList<>();
        List<Told> parts = new ArrayList<>();
        final Node ground = new Node();
        long[] path = new long[10];

        int level(int kind) {
            return kind == 0 ? 0 : 1 + level(aboves.get(kind));
        }

        boolean isKind(int kind) {
            return kind >= 1 && kind < aboves.size();
        }

        List<Node> all() {
            List<Node> all = new ArrayList<>();
            ground.collect(all);
            return all;
        }

        List<Node> inside(Node node) {
            List<Node> all = new ArrayList<>();
            node.collect(all);
            return all;
        }

        Node of(Node node, int kind) {
            if (node == null || node == ground) {
                return null;
            }
            return node.kind == kind ? node : of(node.parent, kind);
        }

        int kind(int above, boolean unique) {
            aboves.add(above);
            uniques.add(unique);
            rules.add(1);
            return aboves.size() - 1;
        }

        int view() {
            views.add(new Asker());
            return views.size();
        }

        int part(int kind, int op, long key) {
            if (!isKind(kind) || op < 0 || op > 6 || parts.size() == 8) {
                return -1;
            }
            Told t = new Told();
            t.kind = kind;
            t.op = op;
            t.key = key;
            parts.add(t);
            return parts.size();
        }

        int code(int part, int c) {
            if (part < 1 || part > parts.size() || c < 0 || c > 15) {
                return -1;
            }
            int had = parts.get(part - 1).codes;
            parts.get(part - 1).codes = c;
            return had;
        }

        boolean keyIs(Told t, long key) {
            boolean[] is = {true, key == t.key, key > t.key, key < t.key, key >= t.key, key <= t.key, key != t.key};
            return is[t.op];
        }

        boolean below(int kind, int upper) {
            int above = aboves.get(kind);
            return above != 0 && (above == upper || below(above, upper));
        }

        boolean fit(List<Told> told) {
            for (int i = 1; i < told.size(); i++) {
                if (!below(told.get(i).kind, told.get(i - 1).kind)) {
                    return false;
                }
            }
            return true;
        }

        boolean isAs(Node node, List<Told> told, Asker a) {
            if (told.isEmpty()) {
                return true;
            }
            if (node.kind != told.get(told.size() - 1).kind) {
                return false;
            }
            for (Told t : told) {
                Node n = of(node, t.kind);
                if (!keyIs(t, n.key)) {
                    return false;
                }
                if ((t.codes & 1) != 0) {
                    Node last = null;
                    for (Node twin : n.parent.children.get(n.kind)) {
                        if (keyIs(t, twin.key)) {
                            last = twin;
                        }
                    }
                    if (last != n) {
                        return false;
                    }
                }
                if ((t.codes & 2) != 0 && of(a.position, t.kind) != n) {
                    return false;
                }
            }
            return true;
        }

        Node find(List<Node> among, List<Told> told, Asker a) {
            for (Node node : among) {
                if (isAs(node, told, a)) {
                    return node;
                }
            }
            return null;
        }

        int get(int view, int call) {
            if (view < 1 || view > views.size()) {
                return -1;
            }
            Asker a = views.get(view - 1);
            List<Told> told = parts;
            parts = new ArrayList<>();
            a.hold = false;
            if (call < 0 || call > 6 || call == 3 || !fit(told)) {
                return 6;
            }
            int way = call % 4;
            if (way == 2 && a.parentage == null) {
                return 5;
            }
            List<Node> among = way == 2 ? inside(a.parentage) : all();
            boolean isIn = way == 2 && among.contains(a.position);
            if (isIn || (way == 1 && a.position != null)) {
                among = among.subList(among.indexOf(a.position) + 1, among.size());
            }
            Node found = find(among, told, a);
            if (found == null && way == 1) {
                a.position = null;
                return 2;
            }
            if (found == null) {
                return 1;
            }
            int status = 0;
            if (way == 1 && told.isEmpty() && a.position != null) {
                int was = level(a.position.kind);
                int is = level(found.kind);
                status = is < was ? 3 : is == was && found.kind != a.position.kind ? 4 : 0;
            }
            a.position = found;
            a.hold = call >= 4;
            if (way != 2) {
                a.parentage = found;
            }
            path = new long[10];
            path[level(found.kind)] = found.value;
            for (Told t : told) {
                if ((t.codes & 4) != 0) {
                    a.parentage = of(found, t.kind);
                }
                if ((t.codes & 8) != 0) {
                    path[level(t.kind)] = of(found, t.kind).value;
                }
            }
            return status;
        }

        long segment(int level) {
            return path[level];
        }

        int insert(int view, long key, long v) {
            if (view < 1 || view > views.size()) {
                return -1;
            }
            Asker a = views.get(view - 1);
            List<Told> told = parts;
            parts = new ArrayList<>();
            a.hold = false;
            if (told.isEmpty() || !fit(told)) {
                return 6;
            }
            int kind = told.get(told.size() - 1).kind;
            List<Told> ahead = told.subList(0, told.size() - 1);
            if (!ahead.isEmpty() && ahead.get(ahead.size() - 1).kind != aboves.get(kind)) {
                return 6;
            }
            Node parent = kind == 1 ? ground : ahead.isEmpty() ? of(a.position, aboves.get(kind)) : find(all(), ahead, a);
            if (parent == null) {
                return 1;
            }
            List<Node> twins = parent.children.get(kind);
            int lesser = 0;
            int equal = 0;
            for (Node twin : twins) {
                lesser += twin.key < key ? 1 : 0;
                equal += twin.key == key ? 1 : 0;
            }
            if (equal > 0 && uniques.get(kind)) {
                return 7;
            }
            int at = lesser;
            if (rules.get(kind) == 1) {
                at = lesser + equal;
            }
            if (rules.get(kind) == 2 && twins.contains(a.position) && a.position.key == key) {
                at = twins.indexOf(a.position);
            }
            Node added = new Node();
            added.kind = kind;
            added.key = key;
            added.value = v;
            added.parent = parent;
            twins.add(at, added);
            a.position = added;
            return 0;
        }

        int replace(int view, long v) {
            if (view < 1 || view > views.size()) {
                return -1;
            }
            Asker a = views.get(view - 1);
            if (!a.hold) {
                return 8;
            }
            a.hold = false;
            a.position.value = v;
            return 0;
        }

        int delete(int view) {
            if (view < 1 || view > views.size()) {
                return -1;
            }
            Asker a = views.get(view - 1);
            if (!a.hold) {
                return 8;
            }
            Node gone = a.position;
            List<Node> all = all();
            int at = all.indexOf(gone);
            Node ahead = at == 0 ? null : all.get(at - 1);
            List<Node> dead = inside(gone);
            dead.add(gone);
            gone.parent.children.get(gone.kind).remove(gone);
            for (Asker other : views) {
                if (dead.contains(other.position)) {
                    other.position = ahead;
                    other.hold = false;
                }
                if (dead.contains(other.parentage)) {
                    other.parentage = null;
                }
            }
            return 0;
        }

        int position(int view, int what) {
            if (view < 1 || view > views.size() || what < 0 || what > 3) {
                return -1;
            }
            Asker a = views.get(view - 1);
            int kind = a.position == null ? 0 : a.position.kind;
            int[] answers = {kind, level(kind), a.parentage == null ? 0 : a.parentage.kind, a.hold ? 1 : 0};
            return answers[what];
        }

        int order(int i, int what) {
            List<Node> all = all();
            if (i < 0 || i >= all.size() || what < 0 || what > 3) {
                return -1;
            }
            Node n = all.get(i);
            int[] answers = {n.kind, level(n.kind), (int) n.key, (int) n.value};
            return answers[what];
        }

        int rule(int kind, int r) {
            if (!isKind(kind) || r < 0 || r > 2) {
                return -1;
            }
            return rules.set(kind, r);
        }

        int within(int view) {
            if (view < 1 || view > views.size() || views.get(view - 1).parentage == null) {
                return -1;
            }
            return inside(views.get(view - 1).parentage).size();
        }
    }
}
