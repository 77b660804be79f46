import java.util.ArrayList;
import java.util.List;

/**
 * All that a checker tells when it is asked about everything, so that two of them can be compared. The
 * asking changes the checker, and is done in parts, each of which leaves it below its 512 calls.
 */
final class Trace {
    interface Part {
        void ask(Covenanter x, List<String> answers);
    }

    static final List<Part> PARTS =
        List.of(Trace::values, Trace::texts, Trace::states, Trace::tests, Trace::stackAndBaskets);

    private Trace() {
    }

    static String of(Covenanter x, Part part) {
        List<String> answers = new ArrayList<>();
        part.ask(x, answers);
        return answers.toString();
    }

    private static void values(Covenanter x, List<String> answers) {
        answers.add(Checks.told(() -> x.terms()));
        answers.add(Checks.told(() -> x.broken()));
        for (int term = 0; term < 10; term++) {
            int t = term;
            answers.add(Checks.told(() -> x.level(t)));
            for (int quarter = 0; quarter < 20; quarter++) {
                int q = quarter;
                answers.add(Checks.told(() -> x.value(t, q)));
            }
        }
    }

    // A length and the first character tell the texts apart that the scenes define.
    private static void texts(Covenanter x, List<String> answers) {
        for (int term = 0; term < 10; term++) {
            int t = term;
            for (int quarter = 0; quarter < 20; quarter++) {
                int q = quarter;
                answers.add(Checks.told(() -> x.textLength(t, q)));
                answers.add(Checks.told(() -> x.textChar(t, q, 0)));
            }
        }
    }

    private static void states(Covenanter x, List<String> answers) {
        for (int each = 0; each < 6; each++) {
            int n = each;
            for (int quarter = 0; quarter < 20; quarter++) {
                int q = quarter;
                answers.add(Checks.told(() -> x.state(n, q)));
                answers.add(Checks.told(() -> x.room(n, q)));
                answers.add(Checks.told(() -> x.size(n, q)));
            }
        }
    }

    private static void tests(Covenanter x, List<String> answers) {
        for (int test = 0; test < 6; test++) {
            int t = test;
            for (int quarter = 0; quarter < 20; quarter++) {
                int q = quarter;
                answers.add(Checks.told(() -> x.waive(t, q) ? 1 : 0));
                answers.add(Checks.told(() -> x.limit(t, q, 0)));
                answers.add(Checks.told(() -> x.cure(t, q, 1)));
            }
            answers.add(Checks.told(() -> x.wake(t, Covenanter.NONE, 0)));
        }
        answers.add(Checks.told(() -> x.test(0, 0)));
    }

    private static void stackAndBaskets(Covenanter x, List<String> answers) {
        for (int basket = 0; basket < 6; basket++) {
            int b = basket;
            answers.add(Checks.told(() -> x.use(b, 0, 1)));
            answers.add(Checks.told(() -> x.refill(b, 1)));
        }
        answers.add(Checks.told(() -> x.basket(0, 0, 0)));
        stack(x, answers);
        for (int term = 0; term < 10; term++) {
            int t = term;
            answers.add(Checks.told(() -> x.number(0)));
            answers.add(Checks.told(() -> x.amend(t, 0)));
        }
        for (int account = 0; account < 6; account++) {
            int a = account;
            for (int quarter = 0; quarter < 20; quarter++) {
                int q = quarter;
                answers.add(Checks.told(() -> x.amount(a, q, 0)));
            }
        }
    }

    // Each formula is defined as a term, or amends the last term, if there are no more places.
    private static void stack(Covenanter x, List<String> answers) {
        for (int left = 0; left < 8; left++) {
            String defined = Checks.told(() -> x.define());
            boolean isDefined = Checks.isAnswer(defined);
            int term = isDefined ? Integer.parseInt(defined) : 9;
            answers.add(isDefined ? defined : Checks.told(() -> x.amend(9, 19)));
            answers.add(Checks.told(() -> x.level(term)));
            answers.add(Checks.told(() -> x.textLength(term, 19)));
            for (int place = 0; place < 8; place++) {
                int p = place;
                answers.add(Checks.told(() -> x.textChar(term, 19, p)));
            }
        }
        answers.add(Checks.told(() -> x.clear()));
    }
}
