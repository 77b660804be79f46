/** Compares answers with those that are due, and counts the ones that differ. */
final class Checks {
    interface Call {
        long answer();
    }

    private final String name;
    private String about = "";
    private int checked = 0;
    private int wrong = 0;

    Checks(String name) {
        this.name = name;
    }

    void about(String what) {
        about = what;
    }

    void due(long want, Call call) {
        due(String.valueOf(want), told(call));
    }

    void due(Class<? extends RuntimeException> want, Call call) {
        due(want.getSimpleName(), told(call));
    }

    void due(String want, String got) {
        checked++;
        if (!want.equals(got)) {
            wrong++;
            String from = StackWalker.getInstance().walk(frames -> frames
                .filter(frame -> !frame.getClassName().equals("Checks") && !frame.getClassName().equals("Edges"))
                .findFirst().map(frame -> frame.getMethodName() + ":" + frame.getLineNumber()).orElse(""));
            System.out.println(name + " " + from + " " + about + ": " + got + ", due is " + want);
        }
    }

    void dueText(Covenanter x, int term, int quarter, String want) {
        StringBuilder got = new StringBuilder();
        for (int place = 0; place < x.textLength(term, quarter); place++) {
            got.append(x.textChar(term, quarter, place));
        }
        due(want, got.toString());
    }

    // The name of the exception's own class, so that what the machine throws never passes for ours;
    // and what a list throws bears a name that ours bears, too, but comes from within the library.
    static String told(Call call) {
        try {
            return String.valueOf(call.answer());
        } catch (Throwable thrown) {
            StackTraceElement[] frames = thrown.getStackTrace();
            boolean isOfLibrary = frames.length > 0 && frames[0].getClassName().matches("(java|jdk)\\..*");
            return (isOfLibrary ? "the library's " : "") + thrown.getClass().getSimpleName();
        }
    }

    static boolean isAnswer(String told) {
        return told.matches("-?[0-9]+");
    }

    int wrong() {
        return wrong;
    }

    void end() {
        System.out.println(name + ": " + checked + " checks, " + wrong + " wrong");
        if (wrong != 0) {
            System.exit(1);
        }
    }
}
