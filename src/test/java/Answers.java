/** Counts the answers that are not as due, and ends a test with exit code 1 if there was one. */
final class Answers {
    private final String test;
    private String sentence = "";
    private int sentences;
    private int wrong;
    private int asked;

    Answers(String test) {
        this.test = test;
    }

    /** What is due from here on is due by this sentence of the document. */
    void says(String promise, String words) {
        sentence = promise + ", \"" + words + "\": ";
        sentences++;
    }

    void due(String call, long got, long want) {
        asked++;
        if (got != want) {
            tellWrong(call, Long.toString(got), Long.toString(want));
        }
    }

    void dueState(String when, PathCalls x, PathCalls asThis) {
        asked++;
        String got = Bases.state(x);
        String want = Bases.state(asThis);
        if (!got.equals(want)) {
            tellWrong(when, got, want);
        }
    }

    private void tellWrong(String call, String got, String want) {
        wrong++;
        System.out.println(test + ": " + sentence + call + " answered " + got + ", due is " + want);
    }

    /** The values of all segments in hierarchic order (each must fit an int). */
    void dueValues(String when, PathCalls x, int... values) {
        due(when + ": count()", x.count(), values.length);
        for (int i = 0; i < values.length; i++) {
            due(when + ": order(" + i + ", 3)", x.order(i, 3), values[i]);
        }
        due(when + ": order(" + values.length + ", 3)", x.order(values.length, 3), PathCalls.NONE);
    }

    void duePosition(String when, PathCalls x, int view, int kind, int level, int parentage, int hold) {
        due(when + ": position(" + view + ", 0)", x.position(view, 0), kind);
        due(when + ": position(" + view + ", 1)", x.position(view, 1), level);
        due(when + ": position(" + view + ", 2)", x.position(view, 2), parentage);
        due(when + ": position(" + view + ", 3)", x.position(view, 3), hold);
    }

    void end() {
        String by = sentences == 0 ? "" : " by " + sentences + " sentences";
        System.out.println(test + ": " + asked + " answers" + by + ", " + wrong + " not as due");
        if (wrong != 0) {
            System.exit(1);
        }
    }
}
