/** Bases to test on, and all that can be seen of one; the tests of edges extend it for its plain names. */
abstract class Bases {
    static final int ANY = 0;
    static final int EQUAL = 1;
    static final int GREATER = 2;
    static final int LESSER = 3;

    static final int LAST = 1;
    static final int PLACE = 2;
    static final int PARENTAGE = 4;
    static final int PATH = 8;

    static final int UNIQUE = 0;
    static final int NEXT = 1;
    static final int WITHIN = 2;
    static final int HOLD = 4;

    /** The kind of each segment of tree(), by its key. */
    private static final int[] TREE_KINDS = {0, 1, 2, 4, 4, 2, 3, 1, 2, 4, 3, 1};

    /** An object with these kinds and two views. */
    static PathCalls ofKinds(boolean unique, int... aboves) {
        PathCalls x = new PathCalls();
        for (int above : aboves) {
            x.kind(above, unique);
        }
        x.view();
        x.view();
        return x;
    }

    /**
     * Kinds: 1; 2 and 3 below it; 4 below 2; none unique. Eleven segments, here as kind:key in hierarchic
     * order: 1:1 (2:2 (4:3, 4:4), 2:5, 3:6), 1:7 (2:8 (4:9), 3:10), 1:11; each value is ten times the key.
     * View 1 has its position on the last one, view 2 is new; neither has a parentage.
     */
    static PathCalls tree() {
        PathCalls x = ofKinds(false, 0, 1, 1, 2);
        for (int key = 1; key < TREE_KINDS.length; key++) {
            put(x, 1, TREE_KINDS[key], key, 10L * key);
        }
        return x;
    }

    /** Asks for the segment of tree() with that key. */
    static int to(PathCalls x, int view, int call, int key) {
        x.part(TREE_KINDS[key], EQUAL, key);
        return x.get(view, call);
    }

    /** Inserts below what the view's position tells. */
    static int put(PathCalls x, int view, int kind, long key, long value) {
        x.part(kind, ANY, 0);
        return x.insert(view, key, value);
    }

    /** Parts of these kinds, with any key. */
    static void parts(PathCalls x, int... kinds) {
        for (int kind : kinds) {
            x.part(kind, ANY, 0);
        }
    }

    /** The last one of these parts gets the codes. */
    static void coded(PathCalls x, int kind, int op, long key, int codes) {
        x.code(x.part(kind, op, key), codes);
    }

    /** The value of a view's position, by a get that keeps the place; 0 if there is no position. */
    static long valueAt(PathCalls x, int view) {
        int kind = x.position(view, 0);
        if (kind == 0) {
            return 0;
        }
        coded(x, kind, ANY, 0, PLACE);
        return x.get(view, UNIQUE) == 0 ? x.segment(x.position(view, 1)) : PathCalls.NONE;
    }

    /** What can be seen without a change; rules and codes are put back. */
    static String state(PathCalls x) {
        StringBuilder all = new StringBuilder("segments");
        for (int i = 0; i < x.count(); i++) {
            all.append(' ').append(x.order(i, 0)).append(':').append(x.order(i, 2)).append('=').append(x.order(i, 3));
        }
        all.append("; views");
        for (int view = 1; x.position(view, 0) != PathCalls.NONE; view++) {
            all.append(' ').append(x.position(view, 0)).append(',').append(x.position(view, 2));
            all.append(',').append(x.position(view, 3)).append(',').append(x.within(view));
        }
        all.append("; path");
        for (int level = 1; level <= 8; level++) {
            all.append(' ').append(x.segment(level));
        }
        all.append("; rules");
        int rule = x.rule(1, 0);
        for (int kind = 1; rule != PathCalls.NONE; kind++) {
            all.append(' ').append(rule);
            x.rule(kind, rule);
            rule = x.rule(kind + 1, 0);
        }
        all.append("; codes");
        int codes = x.code(1, 0);
        for (int part = 1; codes != PathCalls.NONE; part++) {
            all.append(' ').append(codes);
            x.code(part, codes);
            codes = x.code(part + 1, 0);
        }
        return all.toString();
    }
}
