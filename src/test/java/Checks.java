/** Counts answers that are as due, prints those that are not, and ends the test with exit code 1 if there was one. */
final class Checks {
    interface Call {
        Object run();
    }

    private final String title;
    private int right;
    private int wrong;

    Checks(String title) {
        this.title = title;
    }

    void same(String what, long got, long want) {
        report(what, got == want, String.valueOf(got), String.valueOf(want));
    }

    void same(String what, boolean got, boolean want) {
        report(what, got == want, String.valueOf(got), String.valueOf(want));
    }

    void same(String what, String got, String want) {
        report(what, got.equals(want), got, want);
    }

    void outOfBounds(String what, Call call) {
        same(what, answerOf(call), "throws." + IndexOutOfBoundsException.class.getSimpleName());
    }

    void badArgument(String what, Call call) {
        same(what, answerOf(call), "throws." + IllegalArgumentException.class.getSimpleName());
    }

    void badState(String what, Call call) {
        same(what, answerOf(call), "throws." + IllegalStateException.class.getSimpleName());
    }

    static String answerOf(Call call) {
        try {
            return String.valueOf(call.run());
        } catch (RuntimeException thrown) {
            return "throws." + thrown.getClass().getSimpleName();
        }
    }

    private void report(String what, boolean asDue, String got, String want) {
        if (asDue) {
            right++;
        } else {
            wrong++;
            System.out.println(title + ": " + what + " answered " + got + ", due is " + want);
        }
    }

    void end() {
        System.out.println(title + ": " + right + " as due, " + wrong + " not");
        if (wrong != 0 || right == 0) {
            System.exit(1);
        }
    }
}
