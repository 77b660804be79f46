/** At least one test for each promise of the document: ordinary inputs, edges, wrong inputs. */
public final class PromisesTest {
    private static final Class<IndexOutOfBoundsException> INDEX = IndexOutOfBoundsException.class;
    private static final Class<IllegalArgumentException> ARGUMENT = IllegalArgumentException.class;
    private static final Class<IllegalStateException> STATE = IllegalStateException.class;

    private static final Checks CHECKS = new Checks("PromisesTest");

    private static void due(long want, Checks.Call call) {
        CHECKS.due(want, call);
    }

    private static void due(Class<? extends RuntimeException> want, Checks.Call call) {
        CHECKS.due(want, call);
    }

    public static void main(String[] args) {
        promise01();
        promise02();
        promise03();
        promise04();
        promise05();
        promise06();
        promise06Levels();
        promise07();
        promise08();
        promise09();
        promise10();
        promise11();
        promise11Names();
        promise12();
        promise13();
        promise14();
        promise14YearsOfAmendedTerms();
        promise14GreatestValues();
        promise15();
        promise16();
        promise17();
        promise18();
        promise19();
        promise20();
        promise20Windows();
        promise21();
        promise22();
        promise22Edges();
        promise23();
        promise24();
        promise25();
        promise26();
        promise27();
        promise28();
        CHECKS.end();
    }

    // ---- helpers

    private static void dueText(Covenanter x, int term, int quarter, String want) {
        CHECKS.dueText(x, term, quarter, want);
    }

    // ---- accounts and formulas

    private static void promise01() {
        CHECKS.about("a new object");
        Covenanter x = new Covenanter();
        due(0, () -> x.terms());
        due(0, () -> x.broken());
        due(0, () -> x.clear());
        due(INDEX, () -> x.level(0));
        due(INDEX, () -> x.state(0, 0));
        due(INDEX, () -> x.size(0, 0));
        for (int account = 0; account < 6; account++) {
            for (int quarter = 0; quarter < 20; quarter++) {
                int a = account;
                int q = quarter;
                due(0, () -> x.amount(a, q, 1));
            }
        }
        Covenanter other = new Covenanter();
        due(0, () -> other.amount(0, 0, 5));
        due(1, () -> x.amount(0, 0, 5));
    }

    private static void promise02() {
        CHECKS.about("amount");
        Covenanter x = new Covenanter();
        due(0, () -> x.amount(0, 0, 7));
        due(7, () -> x.amount(0, 0, -8));
        due(-8, () -> x.amount(0, 0, 0));
        due(0, () -> x.amount(5, 19, 1000000));
        due(1000000, () -> x.amount(5, 19, -1000000));
        due(0, () -> x.amount(5, 18, 3));
        due(0, () -> x.amount(4, 19, 3));
        due(ARGUMENT, () -> x.amount(5, 19, 1000001));
        due(ARGUMENT, () -> x.amount(5, 19, -1000001));
        due(ARGUMENT, () -> x.amount(5, 19, Integer.MIN_VALUE));
        due(ARGUMENT, () -> x.amount(5, 19, Integer.MAX_VALUE));
        due(-1000000, () -> x.amount(5, 19, 0));
        due(INDEX, () -> x.amount(-1, 0, 0));
        due(INDEX, () -> x.amount(6, 0, 0));
        due(INDEX, () -> x.amount(0, -1, 0));
        due(INDEX, () -> x.amount(0, 20, 0));
        due(INDEX, () -> x.amount(6, 0, 1000001));
        due(INDEX, () -> x.amount(0, 20, -1000001));
        due(INDEX, () -> x.amount(Integer.MIN_VALUE, Integer.MAX_VALUE, 0));
    }

    private static void promise03() {
        CHECKS.about("account");
        Covenanter x = new Covenanter();
        due(INDEX, () -> x.account(-1));
        due(INDEX, () -> x.account(6));
        due(1, () -> x.account(0));
        due(2, () -> x.account(5));
        due(0, () -> x.define());
        dueText(x, 0, 0, "A5");
        x.amount(5, 3, -44);
        due(-44, () -> x.value(0, 3));
        due(1, () -> x.level(0));
        Scenes.fillStack(x);
        due(STATE, () -> x.account(0));
        due(INDEX, () -> x.account(6));
        due(INDEX, () -> x.account(-1));
        due(8, () -> x.clear());
    }

    private static void promise04() {
        CHECKS.about("number");
        Covenanter x = new Covenanter();
        due(ARGUMENT, () -> x.number(-1));
        due(ARGUMENT, () -> x.number(1000001));
        due(1, () -> x.number(0));
        due(2, () -> x.number(1000000));
        due(3, () -> x.number(305));
        x.define();
        x.define();
        x.define();
        dueText(x, 0, 0, "305");
        dueText(x, 1, 0, "1000000");
        dueText(x, 2, 0, "0");
        for (int quarter = 0; quarter < 20; quarter++) {
            int q = quarter;
            due(305, () -> x.value(0, q));
        }
        due(1000000, () -> x.value(1, 19));
        due(0, () -> x.value(2, 0));
        due(1, () -> x.level(1));
        Scenes.fillStack(x);
        due(STATE, () -> x.number(5));
        due(ARGUMENT, () -> x.number(-1));
        due(ARGUMENT, () -> x.number(1000001));
        due(8, () -> x.clear());
    }

    private static void promise05() {
        CHECKS.about("term");
        Covenanter x = new Covenanter();
        due(INDEX, () -> x.term(0));
        Scenes.pushLevel(x, 5);
        x.define();
        Scenes.pushLevel(x, 6);
        x.define();
        due(INDEX, () -> x.term(-1));
        due(INDEX, () -> x.term(2));
        due(1, () -> x.term(0));
        due(STATE, () -> x.term(1));
        due(2, () -> x.term(0));
        due(2, () -> x.define());
        due(6, () -> x.level(2));
        dueText(x, 2, 0, "T0");
        due(STATE, () -> x.term(2));
        x.amount(0, 0, 6);
        due(6, () -> x.value(2, 0));
        Scenes.fillStack(x);
        due(STATE, () -> x.term(0));
        due(INDEX, () -> x.term(3));
        due(8, () -> x.clear());
    }

    private static void promise06() {
        CHECKS.about("join");
        Covenanter x = new Covenanter();
        String[] texts = {"(A0 + A1)", "(A0 - A1)", "min(A0, A1)", "max(A0, A1)"};
        long[] values = {-4, -10, -7, 3};
        Scenes.setAmounts(x, 0, -7, 3);
        Scenes.setAmounts(x, 1, 3, -7);
        long[] turned = {-4, 10, -7, 3};
        for (int kind = 0; kind < 4; kind++) {
            int k = kind;
            x.number(9);
            x.account(0);
            due(3, () -> x.account(1));
            due(2, () -> x.join(k));
            due(k, () -> x.define());
            dueText(x, k, 0, texts[k]);
            due(values[k], () -> x.value(k, 0));
            due(turned[k], () -> x.value(k, 1));
            due(2, () -> x.level(k));
            due(1, () -> x.clear());
        }
        due(STATE, () -> x.join(0));
        due(ARGUMENT, () -> x.join(-1));
        due(ARGUMENT, () -> x.join(4));
        x.number(1);
        due(STATE, () -> x.join(3));
        due(ARGUMENT, () -> x.join(4));
        due(1, () -> x.clear());
    }

    private static void promise06Levels() {
        CHECKS.about("join: levels");
        Covenanter x = new Covenanter();
        Scenes.pushLevel(x, 2);
        Scenes.pushLevel(x, 5);
        due(1, () -> x.join(0));
        due(0, () -> x.define());
        due(6, () -> x.level(0));
        Scenes.pushLevel(x, 4);
        Scenes.pushLevel(x, 1);
        x.join(3);
        due(1, () -> x.define());
        due(5, () -> x.level(1));
        Scenes.pushLevel(x, 6);
        x.number(1);
        due(STATE, () -> x.join(0));
        due(ARGUMENT, () -> x.join(4));
        due(2, () -> x.clear());
        x.number(1);
        Scenes.pushLevel(x, 6);
        due(STATE, () -> x.join(0));
        due(2, () -> x.define());
        due(6, () -> x.level(2));
        due(1, () -> x.clear());
        Scenes.pushLevel(x, 6);
        x.number(1);
        x.number(2);
        due(2, () -> x.join(0));
        due(2, () -> x.clear());
    }

    private static void promise07() {
        CHECKS.about("share");
        Covenanter x = new Covenanter();
        due(STATE, () -> x.share(0));
        due(ARGUMENT, () -> x.share(-1));
        due(ARGUMENT, () -> x.share(101));
        Scenes.setAmounts(x, 0, 10, -10, 3, -3, 1, -1);
        x.account(0);
        due(2, () -> x.share(33));
        due(0, () -> x.define());
        dueText(x, 0, 0, "33% of A0");
        long[] thirds = {3, -4, 0, -1, 0, -1, 0};
        for (int quarter = 0; quarter < thirds.length; quarter++) {
            int q = quarter;
            due(thirds[q], () -> x.value(0, q));
        }
        x.account(0);
        x.share(100);
        due(1, () -> x.define());
        due(-3, () -> x.value(1, 3));
        dueText(x, 1, 0, "100% of A0");
        x.account(0);
        x.share(0);
        due(2, () -> x.define());
        due(0, () -> x.value(2, 1));
        dueText(x, 2, 0, "0% of A0");
        x.account(0);
        x.account(1);
        x.join(0);
        due(3, () -> x.share(50));
        due(4, () -> x.share(25));
        due(5, () -> x.share(25));
        due(6, () -> x.share(7));
        due(STATE, () -> x.share(7));
        due(ARGUMENT, () -> x.share(101));
        due(3, () -> x.define());
        dueText(x, 3, 0, "7% of 25% of 25% of 50% of (A0 + A1)");
        due(0, () -> x.clear());
    }

    private static void promise08() {
        CHECKS.about("year");
        Covenanter x = new Covenanter();
        due(STATE, () -> x.year());
        Scenes.setAmounts(x, 0, 1, 20, 300, 4000, 50000, 600000);
        x.account(0);
        due(2, () -> x.year());
        due(0, () -> x.define());
        dueText(x, 0, 0, "year(A0)");
        long[] years = {1, 21, 321, 4321, 54320, 654300, 654000, 650000, 600000, 0};
        for (int quarter = 0; quarter < years.length; quarter++) {
            int q = quarter;
            due(years[q], () -> x.value(0, q));
        }
        x.number(5);
        x.share(50);
        due(3, () -> x.year());
        due(4, () -> x.year());
        due(5, () -> x.year());
        due(6, () -> x.year());
        due(STATE, () -> x.year());
        due(1, () -> x.define());
        dueText(x, 1, 0, "year(year(year(year(50% of 5))))");
        due(2, () -> x.value(1, 0));
        due(10, () -> x.value(1, 1));
        due(512, () -> x.value(1, 19));
    }

    private static void promise09() {
        CHECKS.about("clear");
        Covenanter x = new Covenanter();
        due(0, () -> x.clear());
        x.number(1);
        x.number(2);
        due(2, () -> x.clear());
        due(0, () -> x.clear());
        due(STATE, () -> x.year());
        Scenes.fillStack(x);
        due(8, () -> x.clear());
        due(1, () -> x.number(1));
    }

    // ---- terms

    private static void promise10() {
        CHECKS.about("define");
        Covenanter x = new Covenanter();
        due(STATE, () -> x.define());
        for (int term = 0; term < 10; term++) {
            int t = term;
            x.number(100);
            x.number(term);
            due(t, () -> x.define());
            due(1, () -> x.clear());
            due(t, () -> x.value(t, 19));
        }
        due(STATE, () -> x.define());
        x.number(1);
        due(STATE, () -> x.define());
        due(1, () -> x.clear());
        due(10, () -> x.terms());
    }

    private static void promise11() {
        CHECKS.about("amend");
        Covenanter x = Scenes.withAccountTerms(2);
        due(STATE, () -> x.amend(0, 0));
        due(INDEX, () -> x.amend(2, 0));
        due(INDEX, () -> x.amend(-1, 0));
        due(INDEX, () -> x.amend(0, -1));
        due(INDEX, () -> x.amend(0, 20));
        x.number(7);
        x.number(50);
        due(2, () -> x.amend(0, 5));
        due(1, () -> x.clear());
        due(0, () -> x.value(0, 4));
        due(50, () -> x.value(0, 5));
        due(50, () -> x.value(0, 19));
        x.number(90);
        due(3, () -> x.amend(0, 19));
        due(50, () -> x.value(0, 18));
        due(90, () -> x.value(0, 19));
        x.number(60);
        due(3, () -> x.amend(0, 5));
        due(60, () -> x.value(0, 5));
        due(90, () -> x.value(0, 19));
        x.number(70);
        due(4, () -> x.amend(0, 4));
        due(70, () -> x.value(0, 4));
        due(60, () -> x.value(0, 5));
        x.number(10);
        due(4, () -> x.amend(0, 0));
        due(10, () -> x.value(0, 0));
        due(10, () -> x.value(0, 3));
        due(70, () -> x.value(0, 4));
        dueText(x, 0, 3, "10");
        dueText(x, 0, 4, "70");
        dueText(x, 0, 18, "60");
        dueText(x, 0, 19, "90");
        x.number(1);
        x.share(5);
        due(STATE, () -> x.amend(0, 0));
        due(INDEX, () -> x.amend(0, 20));
        due(1, () -> x.clear());
        x.account(3);
        due(5, () -> x.amend(0, 6));
        dueText(x, 0, 6, "A3");
        Covenanter y = new Covenanter();
        Scenes.pushLevel(y, 3);
        y.define();
        y.account(1);
        y.share(9);
        due(2, () -> y.amend(0, 1));
        y.account(1);
        y.number(4);
        y.join(2);
        due(3, () -> y.amend(0, 2));
        dueText(y, 0, 1, "9% of A1");
        dueText(y, 0, 2, "min(A1, 4)");
    }

    private static void promise11Names() {
        CHECKS.about("amend: names and levels");
        Covenanter x = Scenes.withAccountTerms(1);
        Scenes.pushLevel(x, 3);
        x.define();
        Scenes.pushLevel(x, 3);
        x.define();
        x.account(0);
        x.define();
        x.term(3);
        due(STATE, () -> x.amend(2, 1));
        x.term(0);
        x.join(0);
        due(STATE, () -> x.amend(2, 1));
        due(1, () -> x.clear());
        x.term(0);
        x.term(3);
        x.join(0);
        due(STATE, () -> x.amend(2, 1));
        due(1, () -> x.clear());
        x.term(0);
        due(2, () -> x.amend(2, 1));
        due(3, () -> x.level(2));
        x.number(3);
        due(1, () -> x.amend(1, 0));
        due(3, () -> x.level(1));
        Scenes.pushLevel(x, 4);
        due(STATE, () -> x.amend(1, 2));
        due(1, () -> x.clear());
        Scenes.pushLevel(x, 3);
        due(2, () -> x.amend(1, 2));
        Scenes.pushLevel(x, 4);
        x.define();
        x.term(1);
        due(4, () -> x.level(4));
        due(2, () -> x.amend(4, 3));
        x.number(2);
        x.term(2);
        x.clear();
        due(5, () -> x.terms());
    }

    private static void promise12() {
        CHECKS.about("terms");
        Covenanter x = new Covenanter();
        due(0, () -> x.terms());
        x.number(1);
        due(0, () -> x.terms());
        x.define();
        due(1, () -> x.terms());
        x.number(2);
        x.amend(0, 3);
        due(1, () -> x.terms());
        x.number(2);
        x.define();
        x.clear();
        due(2, () -> x.terms());
    }

    private static void promise13() {
        CHECKS.about("level");
        Covenanter x = new Covenanter();
        due(INDEX, () -> x.level(0));
        for (int level = 1; level <= 6; level++) {
            int l = level;
            Scenes.pushLevel(x, level);
            x.define();
            due(l, () -> x.level(l - 1));
        }
        due(INDEX, () -> x.level(6));
        due(INDEX, () -> x.level(-1));
        x.number(1);
        x.amend(5, 0);
        due(6, () -> x.level(5));
    }

    private static void promise14() {
        CHECKS.about("value");
        Covenanter x = Scenes.withAccountTerms(1);
        due(INDEX, () -> x.value(1, 0));
        due(INDEX, () -> x.value(-1, 0));
        due(INDEX, () -> x.value(0, 20));
        due(INDEX, () -> x.value(0, -1));
        x.term(0);
        x.number(2);
        x.join(1);
        x.define();
        due(-2, () -> x.value(1, 19));
        x.amount(0, 19, 12);
        due(12, () -> x.value(0, 19));
        due(10, () -> x.value(1, 19));
        due(-2, () -> x.value(1, 18));
        x.number(100);
        x.amend(0, 18);
        due(98, () -> x.value(1, 19));
        due(98, () -> x.value(1, 18));
        due(-2, () -> x.value(1, 17));
    }

    private static void promise14YearsOfAmendedTerms() {
        CHECKS.about("value: years over amended terms");
        Covenanter x = Scenes.withAccountTerms(1);
        for (int quarter = 0; quarter < 20; quarter++) {
            x.amount(0, quarter, 1);
        }
        x.term(0);
        x.year();
        x.define();
        x.number(1000);
        x.amend(0, 5);
        long[] years = {1, 2, 3, 4, 4, 1003, 2002, 3001, 4000, 4000};
        for (int quarter = 0; quarter < years.length; quarter++) {
            int q = quarter;
            due(years[q], () -> x.value(1, q));
        }
        x.number(9);
        x.year();
        due(2, () -> x.amend(1, 6));
        due(1003, () -> x.value(1, 5));
        due(36, () -> x.value(1, 6));
    }

    private static void promise14GreatestValues() {
        CHECKS.about("value: the greatest ones");
        Covenanter x = new Covenanter();
        x.number(1000000);
        for (int level = 2; level <= 6; level++) {
            x.year();
        }
        x.define();
        due(1024000000, () -> x.value(0, 19));
        x.number(1000000);
        x.define();
        x.test(0, 1);
        x.limit(0, 0, 10000);
        due(Covenanter.BROKEN, () -> x.state(0, 19));
        due(100000000L - 1024000000L, () -> x.room(0, 19));
        x.test(1, 0);
        x.limit(1, 0, 10000);
        due(102400000000L - 1000000L, () -> x.room(1, 19));
        due(Covenanter.KEPT, () -> x.state(1, 19));
        x.basket(1000000, 0, 100);
        due(1025000000, () -> x.size(0, 19));
    }

    private static void promise15() {
        CHECKS.about("textLength");
        Covenanter x = new Covenanter();
        due(INDEX, () -> x.textLength(0, 0));
        x.number(1000000);
        x.account(2);
        x.join(3);
        x.year();
        x.define();
        due("year(max(1000000, A2))".length(), () -> x.textLength(0, 0));
        x.number(5);
        x.amend(0, 7);
        due("year(max(1000000, A2))".length(), () -> x.textLength(0, 6));
        due(1, () -> x.textLength(0, 7));
        due(1, () -> x.textLength(0, 19));
        due(INDEX, () -> x.textLength(1, 0));
        due(INDEX, () -> x.textLength(-1, 0));
        due(INDEX, () -> x.textLength(0, -1));
        due(INDEX, () -> x.textLength(0, 20));
    }

    private static void promise16() {
        CHECKS.about("textChar");
        Covenanter x = Scenes.withAccountTerms(3);
        x.term(2);
        x.number(40);
        x.join(1);
        x.account(3);
        x.share(25);
        x.term(0);
        x.join(2);
        x.join(0);
        x.year();
        x.define();
        dueText(x, 3, 0, "year(((T2 - 40) + min(25% of A3, T0)))");
        x.number(88);
        x.amend(3, 10);
        due('y', () -> x.textChar(3, 9, 0));
        due('8', () -> x.textChar(3, 10, 0));
        due('8', () -> x.textChar(3, 19, 1));
        due(INDEX, () -> x.textChar(3, 19, 2));
        due(INDEX, () -> x.textChar(3, 19, -1));
        due(INDEX, () -> x.textChar(3, 0, 38));
        due(')', () -> x.textChar(3, 0, 37));
        due(INDEX, () -> x.textChar(4, 0, 0));
        due(INDEX, () -> x.textChar(-1, 0, 0));
        due(INDEX, () -> x.textChar(0, 20, 0));
        due(INDEX, () -> x.textChar(0, -1, 0));
        due(INDEX, () -> x.textChar(0, 0, Integer.MAX_VALUE));
        due(INDEX, () -> x.textChar(0, 0, Integer.MIN_VALUE));
        x.account(0);
        x.account(1);
        due(3, () -> x.amend(3, 12));
        dueText(x, 3, 12, "A1");
        x.define();
        dueText(x, 4, 12, "A0");
    }

    // ---- tests

    private static void promise17() {
        CHECKS.about("test");
        Covenanter x = Scenes.withAccountTerms(2);
        due(INDEX, () -> x.test(2, 0));
        due(INDEX, () -> x.test(0, 2));
        due(INDEX, () -> x.test(-1, 0));
        due(INDEX, () -> x.test(0, -1));
        for (int test = 0; test < 6; test++) {
            int t = test;
            due(t, () -> x.test(t % 2, 0));
            due(Covenanter.ASLEEP, () -> x.state(t, 0));
        }
        due(STATE, () -> x.test(0, 1));
        due(INDEX, () -> x.test(0, 2));
        due(INDEX, () -> x.test(2, 0));
        due(INDEX, () -> x.state(6, 0));
        x.amount(0, 0, -1000000);
        x.limit(5, 0, 10000);
        due(Covenanter.BROKEN, () -> x.state(5, 0));
        due(Covenanter.NONE, () -> x.wake(5, 0, 0));
    }

    private static void promise18() {
        CHECKS.about("limit");
        Covenanter x = Scenes.withAccountTerms(2);
        due(INDEX, () -> x.limit(0, 0, 100));
        x.test(0, 1);
        x.test(1, 0);
        for (int quarter = 0; quarter < 20; quarter++) {
            x.amount(0, quarter, 100);
            x.amount(1, quarter, 100);
        }
        due(1, () -> x.limit(0, 5, 100));
        due(Covenanter.ASLEEP, () -> x.state(0, 4));
        due(Covenanter.KEPT, () -> x.state(0, 5));
        due(Covenanter.KEPT, () -> x.state(0, 19));
        due(2, () -> x.limit(0, 10, 99));
        due(Covenanter.KEPT, () -> x.state(0, 9));
        due(Covenanter.BROKEN, () -> x.state(0, 10));
        due(Covenanter.BROKEN, () -> x.state(0, 19));
        due(2, () -> x.limit(0, 10, 10000));
        due(Covenanter.KEPT, () -> x.state(0, 10));
        due(3, () -> x.limit(0, 0, 0));
        due(3, () -> x.limit(0, 0, 0));
        due(Covenanter.BROKEN, () -> x.state(0, 4));
        due(Covenanter.KEPT, () -> x.state(0, 5));
        due(1, () -> x.limit(1, 19, 100));
        due(Covenanter.ASLEEP, () -> x.state(1, 18));
        due(ARGUMENT, () -> x.limit(0, 0, -1));
        due(ARGUMENT, () -> x.limit(0, 0, 10001));
        due(INDEX, () -> x.limit(2, 0, 10001));
        due(INDEX, () -> x.limit(-1, 0, 1));
        due(INDEX, () -> x.limit(0, 20, -1));
        due(INDEX, () -> x.limit(0, -1, 1));
        due(4, () -> x.limit(0, 19, 1));
    }

    private static void promise19() {
        CHECKS.about("wake");
        Covenanter x = Scenes.withAccountTerms(2);
        due(INDEX, () -> x.wake(0, 0, 0));
        x.test(0, 1);
        x.limit(0, 0, 100);
        Scenes.setAmounts(x, 3, 5, 6, 7);
        due(Covenanter.NONE, () -> x.wake(0, 3, 6));
        due(Covenanter.ASLEEP, () -> x.state(0, 0));
        due(Covenanter.BROKEN, () -> x.state(0, 1));
        due(Covenanter.BROKEN, () -> x.state(0, 2));
        due(Covenanter.ASLEEP, () -> x.state(0, 3));
        due(3, () -> x.wake(0, 5, -1000000));
        due(Covenanter.BROKEN, () -> x.state(0, 0));
        due(5, () -> x.wake(0, 0, 1000000));
        due(Covenanter.ASLEEP, () -> x.state(0, 1));
        due(ARGUMENT, () -> x.wake(0, 1, 1000001));
        due(ARGUMENT, () -> x.wake(0, 1, -1000001));
        due(ARGUMENT, () -> x.wake(0, Covenanter.NONE, 1000001));
        due(ARGUMENT, () -> x.wake(0, Covenanter.NONE, -1000001));
        due(INDEX, () -> x.wake(0, 6, 1000001));
        due(INDEX, () -> x.wake(0, -2, 0));
        due(INDEX, () -> x.wake(1, 0, 0));
        due(INDEX, () -> x.wake(-1, Covenanter.NONE, 1000001));
        due(0, () -> x.wake(0, Covenanter.NONE, 1000000));
        due(Covenanter.BROKEN, () -> x.state(0, 1));
        due(Covenanter.NONE, () -> x.wake(0, Covenanter.NONE, -1000000));
        x.amount(0, 7, -5);
        x.wake(0, 0, -4);
        due(Covenanter.ASLEEP, () -> x.state(0, 7));
        due(Covenanter.BROKEN, () -> x.state(0, 8));
    }

    private static void promise20() {
        CHECKS.about("cure");
        Covenanter x = Scenes.withAccountTerms(2);
        due(INDEX, () -> x.cure(0, 0, 1));
        x.test(0, 1);
        x.test(0, 1);
        x.limit(0, 0, 100);
        x.limit(1, 0, 100);
        x.amount(0, 3, 1000000);
        due(1, () -> x.cure(0, 3, 1000000));
        due(Covenanter.CURED, () -> x.state(0, 3));
        due(Covenanter.BROKEN, () -> x.state(1, 3));
        due(0, () -> x.value(1, 3));
        due(STATE, () -> x.cure(0, 3, 1));
        due(ARGUMENT, () -> x.cure(0, 3, 0));
        due(ARGUMENT, () -> x.cure(0, 4, 1000001));
        due(ARGUMENT, () -> x.cure(0, 4, -1));
        due(INDEX, () -> x.cure(2, 3, 0));
        due(INDEX, () -> x.cure(-1, 3, 1));
        due(INDEX, () -> x.cure(0, 20, 0));
        due(INDEX, () -> x.cure(0, -1, 1));
        due(2, () -> x.cure(0, 4, 1));
        due(STATE, () -> x.cure(0, 4, 1));
        due(1, () -> x.cure(1, 3, 999999));
        due(Covenanter.BROKEN, () -> x.state(1, 3));
    }

    private static void promise20Windows() {
        CHECKS.about("cure: four quarters");
        Covenanter x = Scenes.withAccountTerms(2);
        x.test(0, 1);
        due(1, () -> x.cure(0, 0, 1));
        due(2, () -> x.cure(0, 3, 1));
        due(STATE, () -> x.cure(0, 1, 1));
        due(STATE, () -> x.cure(0, 2, 1));
        due(3, () -> x.cure(0, 4, 1));
        due(STATE, () -> x.cure(0, 5, 1));
        due(STATE, () -> x.cure(0, 6, 1));
        due(4, () -> x.cure(0, 7, 1));
        due(5, () -> x.cure(0, 19, 1));
        due(6, () -> x.cure(0, 17, 1));
        due(STATE, () -> x.cure(0, 18, 1));
        due(STATE, () -> x.cure(0, 16, 1));
        due(7, () -> x.cure(0, 15, 1));
        due(STATE, () -> x.cure(0, 14, 1));
        due(8, () -> x.cure(0, 13, 1));
        due(STATE, () -> x.cure(0, 12, 1));
        due(9, () -> x.cure(0, 11, 1));
        x.test(0, 1);
        due(1, () -> x.cure(1, 10, 1));
        due(2, () -> x.cure(1, 16, 1));
        due(3, () -> x.cure(1, 13, 1));
    }

    private static void promise21() {
        CHECKS.about("waive");
        Covenanter x = Scenes.withAccountTerms(2);
        due(INDEX, () -> x.waive(0, 0) ? 1 : 0);
        x.test(0, 1);
        x.limit(0, 0, 100);
        due(Covenanter.BROKEN, () -> x.state(0, 5));
        due(1, () -> x.waive(0, 5) ? 1 : 0);
        due(Covenanter.WAIVED, () -> x.state(0, 5));
        due(Covenanter.BROKEN, () -> x.state(0, 4));
        due(0, () -> x.waive(0, 5) ? 1 : 0);
        due(Covenanter.BROKEN, () -> x.state(0, 5));
        due(1, () -> x.waive(0, 5) ? 1 : 0);
        due(1, () -> x.waive(0, 0) ? 1 : 0);
        due(1, () -> x.waive(0, 19) ? 1 : 0);
        due(INDEX, () -> x.waive(0, 20) ? 1 : 0);
        due(INDEX, () -> x.waive(0, -1) ? 1 : 0);
        due(INDEX, () -> x.waive(1, 0) ? 1 : 0);
        due(INDEX, () -> x.waive(-1, 0) ? 1 : 0);
    }

    private static void promise22() {
        CHECKS.about("state");
        Covenanter x = Scenes.withAccountTerms(3);
        due(INDEX, () -> x.state(0, 0));
        x.test(0, 1);
        x.limit(0, 0, 250);
        x.amount(1, 0, 40);
        x.amount(0, 0, 100);
        due(Covenanter.KEPT, () -> x.state(0, 0));
        x.waive(0, 0);
        x.cure(0, 0, 1);
        due(Covenanter.KEPT, () -> x.state(0, 0));
        x.amount(0, 0, 101);
        due(Covenanter.CURED, () -> x.state(0, 0));
        x.amount(0, 0, 102);
        due(Covenanter.CURED, () -> x.state(0, 0));
        x.amount(0, 0, 103);
        due(Covenanter.WAIVED, () -> x.state(0, 0));
        x.waive(0, 0);
        due(Covenanter.BROKEN, () -> x.state(0, 0));
        x.wake(0, 2, 1);
        due(Covenanter.ASLEEP, () -> x.state(0, 0));
        x.amount(2, 0, 1);
        due(Covenanter.BROKEN, () -> x.state(0, 0));
        due(INDEX, () -> x.state(0, -1));
        due(INDEX, () -> x.state(0, 20));
        due(INDEX, () -> x.state(1, 0));
        due(INDEX, () -> x.state(-1, 0));
    }

    private static void promise22Edges() {
        CHECKS.about("state: a bottom that is not above 0, a top below 0");
        Covenanter x = Scenes.withAccountTerms(2);
        x.test(0, 1);
        x.limit(0, 0, 100);
        x.amount(0, 0, -500);
        due(Covenanter.BROKEN, () -> x.state(0, 0));
        x.amount(1, 0, -10);
        due(Covenanter.BROKEN, () -> x.state(0, 0));
        x.cure(0, 0, 10);
        due(Covenanter.BROKEN, () -> x.state(0, 0));
        x.amount(1, 0, -9);
        due(Covenanter.CURED, () -> x.state(0, 0));
        x.amount(1, 0, 1);
        due(Covenanter.KEPT, () -> x.state(0, 0));
        x.limit(0, 0, 0);
        x.amount(0, 0, 1);
        due(Covenanter.BROKEN, () -> x.state(0, 0));
        x.amount(0, 0, 0);
        due(Covenanter.KEPT, () -> x.state(0, 0));
        x.amount(1, 0, 0);
        due(Covenanter.CURED, () -> x.state(0, 0));
    }

    private static void promise23() {
        CHECKS.about("room");
        Covenanter x = Scenes.withAccountTerms(2);
        due(INDEX, () -> x.room(0, 0));
        x.test(0, 1);
        due(STATE, () -> x.room(0, 0));
        x.limit(0, 1, 333);
        x.amount(1, 0, 10);
        due(STATE, () -> x.room(0, 0));
        due(STATE, () -> x.room(0, 1));
        x.amount(1, 1, 11);
        due(36, () -> x.room(0, 1));
        x.amount(0, 1, 36);
        due(0, () -> x.room(0, 1));
        due(Covenanter.KEPT, () -> x.state(0, 1));
        x.amount(0, 1, 37);
        due(-1, () -> x.room(0, 1));
        due(Covenanter.BROKEN, () -> x.state(0, 1));
        x.amount(0, 1, -37);
        due(73, () -> x.room(0, 1));
        x.cure(0, 1, 9);
        due(66 + 37, () -> x.room(0, 1));
        x.amount(1, 1, -9);
        due(STATE, () -> x.room(0, 1));
        x.amount(1, 1, -8);
        due(3 + 37, () -> x.room(0, 1));
        x.wake(0, 5, 1);
        due(Covenanter.ASLEEP, () -> x.state(0, 1));
        due(40, () -> x.room(0, 1));
        x.waive(0, 1);
        due(40, () -> x.room(0, 1));
        due(INDEX, () -> x.room(0, 20));
        due(INDEX, () -> x.room(0, -1));
        due(INDEX, () -> x.room(1, 1));
        due(INDEX, () -> x.room(-1, 1));
    }

    private static void promise24() {
        CHECKS.about("broken");
        Covenanter x = Scenes.withAccountTerms(2);
        x.test(0, 1);
        due(0, () -> x.broken());
        x.limit(0, 3, 100);
        due(17, () -> x.broken());
        x.test(1, 0);
        x.limit(1, 18, 100);
        due(19, () -> x.broken());
        x.waive(0, 3);
        due(18, () -> x.broken());
        x.cure(0, 4, 1);
        due(17, () -> x.broken());
        x.amount(1, 5, 1);
        due(16, () -> x.broken());
        x.wake(1, 2, 1);
        due(14, () -> x.broken());
        x.amount(2, 19, 1);
        due(15, () -> x.broken());
        x.limit(0, 0, 0);
        due(18, () -> x.broken());
        x.waive(0, 0);
        x.waive(0, 19);
        due(16, () -> x.broken());
    }

    // ---- baskets

    private static void promise25() {
        CHECKS.about("basket");
        Covenanter x = Scenes.withAccountTerms(1);
        due(ARGUMENT, () -> x.basket(-1, 0, 0));
        due(ARGUMENT, () -> x.basket(1000001, 0, 0));
        due(ARGUMENT, () -> x.basket(0, 0, -1));
        due(ARGUMENT, () -> x.basket(0, 0, 101));
        due(ARGUMENT, () -> x.basket(-1, 1, 0));
        due(ARGUMENT, () -> x.basket(0, 1, 101));
        due(INDEX, () -> x.basket(0, 1, 0));
        due(INDEX, () -> x.basket(0, -1, 0));
        due(0, () -> x.basket(0, 0, 0));
        due(1, () -> x.basket(1000000, 0, 100));
        for (int basket = 2; basket < 6; basket++) {
            int b = basket;
            due(b, () -> x.basket(b, 0, b));
        }
        due(STATE, () -> x.basket(0, 0, 0));
        due(ARGUMENT, () -> x.basket(0, 0, 101));
        due(INDEX, () -> x.basket(0, 1, 100));
        due(INDEX, () -> x.size(6, 0));
    }

    private static void promise26() {
        CHECKS.about("size");
        Covenanter x = Scenes.withAccountTerms(2);
        due(INDEX, () -> x.size(0, 0));
        x.basket(100, 1, 33);
        Scenes.setAmounts(x, 1, 10, -10, 0, 3, 1000000);
        long[] sizes = {103, 100, 100, 100, 330100};
        for (int quarter = 0; quarter < sizes.length; quarter++) {
            int q = quarter;
            due(sizes[q], () -> x.size(0, q));
        }
        x.number(200);
        x.amend(1, 19);
        due(166, () -> x.size(0, 19));
        due(100, () -> x.size(0, 18));
        x.basket(7, 1, 100);
        x.amount(1, 5, 1);
        x.amount(1, 6, -1);
        due(8, () -> x.size(1, 5));
        due(7, () -> x.size(1, 6));
        due(7, () -> x.size(1, 7));
        due(INDEX, () -> x.size(0, 20));
        due(INDEX, () -> x.size(0, -1));
        due(INDEX, () -> x.size(2, 0));
        due(INDEX, () -> x.size(-1, 0));
    }

    private static void promise27() {
        CHECKS.about("use");
        Covenanter x = Scenes.withAccountTerms(1);
        due(INDEX, () -> x.use(0, 0, 1));
        x.basket(50, 0, 50);
        x.amount(0, 7, 100);
        due(STATE, () -> x.use(0, 7, 101));
        due(60, () -> x.use(0, 7, 60));
        due(STATE, () -> x.use(0, 6, 1));
        due(STATE, () -> x.use(0, 7, 41));
        due(100, () -> x.use(0, 7, 40));
        due(STATE, () -> x.use(0, 7, 1));
        due(ARGUMENT, () -> x.use(0, 7, 0));
        due(ARGUMENT, () -> x.use(0, 7, -1));
        due(ARGUMENT, () -> x.use(0, 7, 1000001));
        due(INDEX, () -> x.use(0, 20, 0));
        due(INDEX, () -> x.use(0, -1, 1));
        due(INDEX, () -> x.use(1, 0, 0));
        due(INDEX, () -> x.use(-1, 0, 1));
        x.basket(1000000, 0, 100);
        due(1000000, () -> x.use(1, 0, 1000000));
        due(1000100, () -> x.use(1, 7, 100));
        due(STATE, () -> x.use(1, 7, 1));
        x.amount(0, 7, 102);
        due(101, () -> x.use(0, 7, 1));
        due(STATE, () -> x.use(0, 7, 1));
    }

    private static void promise28() {
        CHECKS.about("refill");
        Covenanter x = Scenes.withAccountTerms(1);
        due(INDEX, () -> x.refill(0, 1));
        x.basket(1000000, 0, 100);
        due(STATE, () -> x.refill(0, 1));
        x.use(0, 0, 10);
        due(STATE, () -> x.refill(0, 11));
        due(7, () -> x.refill(0, 3));
        due(0, () -> x.refill(0, 7));
        due(STATE, () -> x.refill(0, 1));
        due(ARGUMENT, () -> x.refill(0, 0));
        due(ARGUMENT, () -> x.refill(0, -1));
        due(ARGUMENT, () -> x.refill(0, 1000001));
        due(INDEX, () -> x.refill(1, 0));
        due(INDEX, () -> x.refill(-1, 1));
        x.use(0, 0, 1000000);
        due(0, () -> x.refill(0, 1000000));
        due(1000000, () -> x.use(0, 19, 1000000));
    }
}
