/** What tests put a checker into before the call that they look at. */
final class Scenes {
    interface Scene {
        void on(Covenanter x);

        default Scene then(Scene next) {
            return x -> {
                on(x);
                next.on(x);
            };
        }
    }

    static final Scene NOTHING = x -> { };

    private Scenes() {
    }

    static Covenanter made(Scene scene) {
        Covenanter x = new Covenanter();
        scene.on(x);
        return x;
    }

    /** A checker whose terms T0 to T(count - 1) are the accounts A0 to A(count - 1). */
    static Covenanter withAccountTerms(int count) {
        return made(accountTerms(count));
    }

    static Scene accountTerms(int count) {
        return x -> {
            for (int account = 0; account < count; account++) {
                x.account(account);
                x.define();
            }
        };
    }

    /** Terms that are the numbers from 0 on, each one its own. */
    static Scene numberTerms(int count) {
        return x -> {
            for (int number = 0; number < count; number++) {
                x.number(number);
                x.define();
            }
        };
    }

    /** Terms T0 = A0 and T1 = A1, and tests of T0 against T1 with a limit of 1.00 in all quarters. */
    static Scene tests(int count) {
        return accountTerms(2).then(x -> {
            for (int test = 0; test < count; test++) {
                x.test(0, 1);
                x.limit(test, 0, 100);
            }
        });
    }

    /** A term T0 = A0, and baskets of 100 and the half of T0. */
    static Scene baskets(int count) {
        return accountTerms(1).then(x -> {
            for (int basket = 0; basket < count; basket++) {
                x.basket(100, 0, 50);
            }
        });
    }

    /** A stack of the numbers from 1 on. */
    static Scene stack(int height) {
        return x -> {
            for (int number = 1; number <= height; number++) {
                x.number(number);
            }
        };
    }

    /** A stack of formulas of levels from 1 to 6. */
    static Scene levels(int... levels) {
        return x -> {
            for (int level : levels) {
                pushLevel(x, level);
            }
        };
    }

    static void fillStack(Covenanter x) {
        x.clear();
        stack(8).on(x);
    }

    /** Puts a formula of a level from 1 to 6 on the stack. */
    static void pushLevel(Covenanter x, int level) {
        x.account(0);
        for (int made = 1; made < level; made++) {
            x.year();
        }
    }

    static void setAmounts(Covenanter x, int account, int... amounts) {
        for (int quarter = 0; quarter < amounts.length; quarter++) {
            x.amount(account, quarter, amounts[quarter]);
        }
    }

    /** Some of everything: 3 terms, 2 tests, 2 baskets and 2 formulas on the stack. */
    static void some(Covenanter x) {
        setAmounts(x, 0, 60, 70, -80, 90, 100);
        setAmounts(x, 1, 50, 40, 30, 20);
        // The wake of test 0 asks for 10: the quarters 0 and 2 lie at its edge.
        setAmounts(x, 2, 10, 11, 9);
        x.amount(5, 19, -6);
        x.account(0);
        x.define();
        x.account(1);
        x.year();
        x.define();
        x.term(0);
        x.number(5);
        x.join(Covenanter.SUM);
        x.define();
        x.number(77);
        x.amend(1, 4);
        x.account(5);
        x.amend(2, 18);
        x.test(0, 1);
        x.test(2, 1);
        x.limit(0, 0, 130);
        x.limit(0, 6, 90);
        x.limit(1, 3, 50);
        x.wake(0, 2, 10);
        x.cure(0, 1, 15);
        x.cure(1, 4, 8);
        x.cure(1, 7, 9);
        x.waive(0, 0);
        x.waive(1, 5);
        x.basket(100, 0, 50);
        x.basket(0, 1, 100);
        x.use(0, 0, 30);
        x.account(3);
        x.number(12);
    }

    /** All places full: 10 terms, 6 tests, 6 baskets and 8 formulas on the stack. */
    static void full(Covenanter x) {
        setAmounts(x, 0, 60, 70, 80);
        setAmounts(x, 1, 50, 40, 30);
        accountTerms(6).on(x);
        x.term(0);
        x.define();
        x.term(6);
        x.define();
        x.number(8);
        x.define();
        pushLevel(x, 6);
        x.define();
        x.number(20);
        x.amend(1, 3);
        for (int test = 0; test < 6; test++) {
            x.test(test, 1);
            x.limit(test, test, 100 + test);
            x.waive(test, 2 * test);
        }
        x.cure(0, 0, 7);
        x.cure(0, 3, 8);
        x.cure(5, 19, 9);
        x.wake(5, 0, 60);
        for (int basket = 0; basket < 6; basket++) {
            x.basket(10 + basket, 8, 100);
            x.use(basket, 19, 18);
        }
        for (int account = 0; account < 6; account++) {
            x.account(account);
        }
        x.term(2);
        x.number(8);
    }
}
