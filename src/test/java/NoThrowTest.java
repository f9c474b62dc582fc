/** Rule 7 of LANGUAGE.md: no call throws, for any arguments in any state, behind the 512th call too. */
public final class NoThrowTest {
    private static final Answers A = new Answers("NoThrowTest");
    private static final int[] ODD = {0, 1, -1, 2, 3, 4, 5, 7, 8, 9, 10, 15, 16, 20, 21, 255, 256, 257,
        Integer.MAX_VALUE, Integer.MIN_VALUE};

    private long seed;

    public static void main(String[] args) {
        for (int run = 0; run < 400; run++) {
            new NoThrowTest().call(run);
        }
        fillUp();
        A.end();
    }

    private int pick(int bound) {
        seed = seed * 6364136223846793005L + 1442695040888963407L;
        return (int) ((seed >>> 33) % bound);
    }

    private int odd() {
        return pick(3) == 0 ? ODD[pick(ODD.length)] : 1 + pick(3);
    }

    private void call(int run) {
        seed = run + 1;
        pick(2);
        PathCalls x = new PathCalls();
        int done = 0;
        try {
            for (int i = 0; i < 2500; i++) {
                one(x, pick(16));
                done++;
            }
        } catch (RuntimeException e) {
            System.out.println("run " + run + " threw " + e);
        }
        A.due("run " + run + ": calls that ended", done, 2500);
    }

    private void one(PathCalls x, int which) {
        switch (which) {
            case 0: x.kind(odd(), pick(2) == 0); break;
            case 1: x.view(); break;
            case 2: case 3: x.part(odd(), odd(), odd()); break;
            case 4: x.code(odd(), odd()); break;
            case 5: case 6: x.get(odd(), odd()); break;
            case 7: x.segment(odd()); break;
            case 8: case 9: x.insert(odd(), odd(), odd()); break;
            case 10: x.replace(odd(), odd()); break;
            case 11: x.delete(odd()); break;
            case 12: x.position(odd(), odd()); break;
            case 13: x.order(odd(), odd()); break;
            case 14: x.rule(odd(), odd()); break;
            default: x.within(odd()); x.count();
        }
    }

    /** More inserts than an object is used for: they may be refused, but the base stays sound. */
    private static void fillUp() {
        PathCalls x = new PathCalls();
        x.kind(0, false);
        x.view();
        int done = 0;
        for (int i = 0; i < 2000; i++) {
            x.part(1, 0, 0);
            done += x.insert(1, i, i) == 0 ? 1 : 0;
        }
        A.due("inserts that are done are counted", x.count(), done);
        A.due("the first is there", x.order(0, 3), 0);
        A.due("the last is there", x.order(done - 1, 3), done - 1);
        A.due("no more are there", x.order(done, 3), -1);
    }
}
