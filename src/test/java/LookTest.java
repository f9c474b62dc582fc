/** Promises 11 to 13 and 15: position, order, count, within. */
public final class LookTest {
    private static final Answers A = new Answers("LookTest");

    public static void main(String[] args) {
        positions();
        orders();
        counts();
        withins();
        A.end();
    }

    private static int put(PathCalls x, int kind, long key, long value) {
        x.part(kind, 0, 0);
        return x.insert(1, key, value);
    }

    private static PathCalls base() {
        PathCalls x = new PathCalls();
        x.kind(0, false);
        x.kind(1, false);
        x.kind(1, false);
        x.kind(3, false);
        x.view();
        x.view();
        put(x, 1, 1, 1);
        put(x, 2, 2, 2);
        put(x, 3, 3, 3);
        put(x, 4, 4, 4);
        put(x, 1, 5, 5);
        put(x, 2, 6, 6);
        return x;
    }

    private static void positions() {
        PathCalls x = base();
        x.part(3, 0, 0);
        x.code(1, 4);
        x.part(4, 0, 0);
        A.due("11: get", x.get(2, 4), 0);
        A.duePosition("11: kind 4 in 3", x, 2, 4, 3, 3, 1);
        A.duePosition("11: view 1 has its own", x, 1, 2, 2, 0, 0);
        int[] whats = {-1, 4, Integer.MIN_VALUE, Integer.MAX_VALUE};
        for (int what : whats) {
            A.due("11: what " + what, x.position(2, what), -1);
        }
        int[] views = {-1, 0, 3, Integer.MIN_VALUE, Integer.MAX_VALUE};
        for (int view : views) {
            for (int what = 0; what <= 3; what++) {
                A.due("11: view " + view, x.position(view, what), -1);
            }
        }
    }

    private static void orders() {
        PathCalls x = base();
        int[][] due = {{1, 1, 1, 1}, {2, 2, 2, 2}, {3, 2, 3, 3}, {4, 3, 4, 4}, {1, 1, 5, 5}, {2, 2, 6, 6}};
        for (int i = 0; i < due.length; i++) {
            for (int what = 0; what <= 3; what++) {
                A.due("12: order(" + i + ", " + what + ")", x.order(i, what), due[i][what]);
            }
            A.due("12: what -1", x.order(i, -1), -1);
            A.due("12: what 4", x.order(i, 4), -1);
        }
        int[] wrong = {-1, 6, 300, Integer.MIN_VALUE, Integer.MAX_VALUE};
        for (int i : wrong) {
            A.due("12: order(" + i + ", 0)", x.order(i, 0), -1);
        }
        put(x, 1, 0x1_8000_0001L, 0x7_0000_0002L);
        A.due("12: the lowest 32 bits of the key", x.order(6, 2), 0x8000_0001);
        A.due("12: the lowest 32 bits of the value", x.order(6, 3), 2);
        put(x, 1, Long.MIN_VALUE, -1);
        A.due("12: Long.MIN_VALUE comes first", x.order(0, 2), 0);
        A.due("12: -1", x.order(0, 3), -1);
    }

    private static void counts() {
        PathCalls x = base();
        A.due("13: six", x.count(), 6);
        x.insert(7, 1, 1);
        x.insert(1, 1, 1);
        x.part(9, 0, 0);
        x.kind(0, true);
        x.delete(1);
        x.delete(5);
        x.replace(1, 9);
        x.get(5, 4);
        A.dueValues("13: refused calls change nothing", x, 1, 2, 3, 4, 5, 6);
        A.duePosition("13: refused calls change nothing", x, 1, 2, 2, 0, 0);
        x.get(1, 4);
        x.delete(1);
        A.due("13: a tree of four went", x.count(), 2);
    }

    private static void withins() {
        PathCalls x = base();
        A.due("15: no parentage", x.within(1), -1);
        A.due("15: view 0", x.within(0), -1);
        A.due("15: view 3", x.within(3), -1);
        x.get(2, 0);
        A.due("15: the first root, not itself", x.within(2), 3);
        x.part(3, 0, 0);
        x.get(2, 0);
        A.due("15: kind 3", x.within(2), 1);
        x.part(4, 0, 0);
        x.get(2, 0);
        A.due("15: a leaf", x.within(2), 0);
        x.part(1, 1, 5);
        x.get(2, 0);
        A.due("15: the last root", x.within(2), 1);
        put(x, 2, 7, 7);
        put(x, 3, 8, 8);
        put(x, 4, 9, 9);
        A.due("15: with what came later", x.within(2), 4);
        x.part(1, 1, 5);
        x.part(3, 0, 0);
        x.get(1, 4);
        x.delete(1);
        A.due("15: without what went", x.within(2), 2);
        A.due("15: the parentage of view 1 went", x.within(1), -1);
    }
}
