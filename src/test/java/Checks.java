/** Compares answers with those that are due, and counts the ones that differ. */
final class Checks {
    interface Call {
        long answer();
    }

    private final String name;
    private String about = "";
    private int checked = 0;
    private int wrong = 0;

    Checks(String name) {
        this.name = name;
    }

    void about(String what) {
        about = what;
    }

    void due(long want, Call call) {
        due(String.valueOf(want), told(call));
    }

    void due(Class<? extends RuntimeException> want, Call call) {
        due(want.getSimpleName(), told(call));
    }

    void due(String want, String got) {
        checked++;
        if (!want.equals(got)) {
            wrong++;
            String from = StackWalker.getInstance().walk(frames -> frames
                .filter(frame -> !frame.getClassName().startsWith("Checks"))
                .findFirst().map(frame -> frame.getMethodName() + ":" + frame.getLineNumber()).orElse(""));
            System.out.println(name + " " + from + " " + about + ": " + got + ", due is " + want);
        }
    }

    // The name of the exception's own class, so that what the machine throws never passes for ours.
    static String told(Call call) {
        try {
            return String.valueOf(call.answer());
        } catch (Throwable thrown) {
            return thrown.getClass().getSimpleName();
        }
    }

    int wrong() {
        return wrong;
    }

    void end() {
        System.out.println(name + ": " + checked + " checks, " + wrong + " wrong");
        if (wrong != 0) {
            System.exit(1);
        }
    }
}
