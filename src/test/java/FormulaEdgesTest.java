/** The edges of promises 1 to 9: a new object, accounts and formulas. */
public final class FormulaEdgesTest {
    private static final Edges EDGES = new Edges("FormulaEdgesTest");
    private static final Scenes.Scene NOTHING = Scenes.NOTHING;

    public static void main(String[] args) {
        newObjectHasNothing();
        newObjectsAreApart();
        amountsAre0AtFirst();
        amountOfAccounts0To5();
        amountInQuarters0To19();
        amountWithinAMillion();
        amountThrowsInOrder();
        amountIsThatOfItsPlaceAlone();
        accounts0To5();
        accountOnAStackOf8();
        numbersFrom0ToAMillion();
        numberOnAStackOf8();
        termsThatThereAre();
        termOfLevel5And6();
        termOnAStackOf8();
        joinOfKinds0To3();
        joinOfTwoAtLeast();
        joinOfLevels5And6();
        joinAnswersHeights();
        joinOfEqualValues();
        joinOfTheTwoUpperOnes();
        joinOfMadeFormulas();
        joinUpToTheLevel6OnEitherSide();
        sharesFrom0To100();
        shareOfSomething();
        shareOfLevels5And6();
        shareIsRoundedDown();
        yearOfSomething();
        yearOfLevels5And6();
        yearAsFarAsThereAreQuarters();
        shareAndYearOnAStackOf8();
        clearOfNothingAndOf8();
        EDGES.end();
    }

    // ---- a new object

    private static void newObjectHasNothing() {
        EDGES.about("a new object has no terms, tests, baskets and formulas");
        EDGES.taken(0, NOTHING, x -> x.terms());
        EDGES.taken(0, NOTHING, x -> x.broken());
        EDGES.taken(0, NOTHING, x -> x.clear());
        EDGES.refused(Edges.INDEX, NOTHING, x -> x.term(0));
        EDGES.refused(Edges.STATE, NOTHING, x -> x.join(0));
        EDGES.refused(Edges.STATE, NOTHING, x -> x.share(0));
        EDGES.refused(Edges.STATE, NOTHING, x -> x.year());
        EDGES.refused(Edges.STATE, NOTHING, x -> x.define());
        EDGES.refused(Edges.INDEX, NOTHING, x -> x.amend(0, 0));
        EDGES.refused(Edges.INDEX, NOTHING, x -> x.level(0));
        EDGES.refused(Edges.INDEX, NOTHING, x -> x.value(0, 0));
        EDGES.refused(Edges.INDEX, NOTHING, x -> x.textLength(0, 0));
        EDGES.refused(Edges.INDEX, NOTHING, x -> x.textChar(0, 0, 0));
        EDGES.refused(Edges.INDEX, NOTHING, x -> x.test(0, 0));
        EDGES.refused(Edges.INDEX, NOTHING, x -> x.limit(0, 0, 100));
        EDGES.refused(Edges.INDEX, NOTHING, x -> x.wake(0, 0, 0));
        EDGES.refused(Edges.INDEX, NOTHING, x -> x.cure(0, 0, 1));
        EDGES.refused(Edges.INDEX, NOTHING, x -> x.waive(0, 0) ? 1 : 0);
        EDGES.refused(Edges.INDEX, NOTHING, x -> x.state(0, 0));
        EDGES.refused(Edges.INDEX, NOTHING, x -> x.room(0, 0));
        EDGES.refused(Edges.INDEX, NOTHING, x -> x.basket(0, 0, 0));
        EDGES.refused(Edges.INDEX, NOTHING, x -> x.size(0, 0));
        EDGES.refused(Edges.INDEX, NOTHING, x -> x.use(0, 0, 1));
        EDGES.refused(Edges.INDEX, NOTHING, x -> x.refill(0, 1));
    }

    private static void newObjectsAreApart() {
        EDGES.about("an object has nothing of another one");
        Covenanter first = Scenes.made(Scenes::full);
        Covenanter second = new Covenanter();
        EDGES.due(0, () -> second.terms());
        EDGES.due(0, () -> second.clear());
        EDGES.due(0, () -> second.amount(0, 0, 1));
        EDGES.due(8, () -> first.clear());
        EDGES.due(60, () -> first.amount(0, 0, 1));
    }

    // ---- amount

    private static void amountsAre0AtFirst() {
        EDGES.about("an account has 0 in each quarter at first");
        Covenanter x = new Covenanter();
        for (int account = 0; account < 6; account++) {
            for (int quarter = 0; quarter < 20; quarter++) {
                int a = account;
                int q = quarter;
                EDGES.due(0, () -> x.amount(a, q, 1 + a + q));
            }
        }
        for (int account = 0; account < 6; account++) {
            for (int quarter = 0; quarter < 20; quarter++) {
                int a = account;
                int q = quarter;
                EDGES.due(1 + a + q, () -> x.amount(a, q, 0));
            }
        }
    }

    private static void amountOfAccounts0To5() {
        EDGES.about("amount: accounts 0 to 5");
        EDGES.range(0, 5, Edges.INDEX, Scenes::some, (x, account) -> x.amount(account, 0, 33));
        EDGES.refusedAlways(Edges.INDEX, x -> x.amount(-1, 0, 33));
        EDGES.refusedAlways(Edges.INDEX, x -> x.amount(6, 0, 33));
    }

    private static void amountInQuarters0To19() {
        EDGES.about("amount: quarters 0 to 19");
        EDGES.range(0, 19, Edges.INDEX, Scenes::some, (x, quarter) -> x.amount(1, quarter, 33));
        EDGES.refusedAlways(Edges.INDEX, x -> x.amount(1, -1, 33));
        EDGES.refusedAlways(Edges.INDEX, x -> x.amount(1, 20, 33));
    }

    private static void amountWithinAMillion() {
        EDGES.about("amount: -1000000 to 1000000");
        EDGES.range(-1000000, 1000000, Edges.ARGUMENT, Scenes::some, (x, amount) -> x.amount(0, 0, amount));
        EDGES.refusedAlways(Edges.ARGUMENT, x -> x.amount(5, 19, 1000001));
        Covenanter x = Scenes.withAccountTerms(1);
        EDGES.due(0, () -> x.amount(0, 0, 1000000));
        EDGES.due(1000000, () -> x.value(0, 0));
        EDGES.due(1000000, () -> x.amount(0, 0, -1000000));
        EDGES.due(-1000000, () -> x.value(0, 0));
        EDGES.due(-1000000, () -> x.amount(0, 0, 0));
    }

    private static void amountThrowsInOrder() {
        EDGES.about("amount: no such account or quarter ahead of the range");
        EDGES.refusedAlways(Edges.INDEX, x -> x.amount(-1, 0, 1000001));
        EDGES.refusedAlways(Edges.INDEX, x -> x.amount(0, 20, -1000001));
    }

    private static void amountIsThatOfItsPlaceAlone() {
        EDGES.about("amount: only of its account in its quarter");
        Covenanter x = Scenes.withAccountTerms(6);
        x.amount(0, 19, 5);
        x.amount(5, 0, 6);
        x.amount(2, 7, 8);
        for (int account = 0; account < 6; account++) {
            for (int quarter = 0; quarter < 20; quarter++) {
                int a = account;
                int q = quarter;
                int want = a == 0 && q == 19 ? 5 : a == 5 && q == 0 ? 6 : a == 2 && q == 7 ? 8 : 0;
                EDGES.due(want, () -> x.value(a, q));
            }
        }
    }

    // ---- account and number

    private static void accounts0To5() {
        EDGES.about("account: 0 to 5");
        EDGES.range(0, 5, Edges.INDEX, Scenes::some, (x, account) -> x.account(account));
        EDGES.refusedAlways(Edges.INDEX, x -> x.account(-1));
        EDGES.refusedAlways(Edges.INDEX, x -> x.account(6));
    }

    private static void accountOnAStackOf8() {
        EDGES.about("account: on a stack of at most 8");
        EDGES.taken(1, NOTHING, x -> x.account(0));
        EDGES.taken(8, Scenes.stack(7), x -> x.account(0));
        EDGES.refused(Edges.STATE, Scenes.stack(8), x -> x.account(0));
        EDGES.refused(Edges.STATE, Scenes::full, x -> x.account(5));
        EDGES.refused(Edges.INDEX, Scenes.stack(8), x -> x.account(6));
        EDGES.taken(8, Scenes.stack(8).then(x -> x.join(0)), x -> x.account(0));
    }

    private static void numbersFrom0ToAMillion() {
        EDGES.about("number: 0 to 1000000");
        EDGES.range(0, 1000000, Edges.ARGUMENT, Scenes::some, (x, number) -> x.number(number));
        EDGES.refusedAlways(Edges.ARGUMENT, x -> x.number(-1));
        EDGES.refusedAlways(Edges.ARGUMENT, x -> x.number(1000001));
        Covenanter x = Scenes.made(y -> {
            y.number(0);
            y.define();
            y.number(1000000);
            y.define();
        });
        EDGES.dueText(x, 0, 0, "0");
        EDGES.dueText(x, 1, 19, "1000000");
        EDGES.due(0, () -> x.value(0, 0));
        EDGES.due(1000000, () -> x.value(1, 0));
        EDGES.due(1000000, () -> x.value(1, 19));
    }

    private static void numberOnAStackOf8() {
        EDGES.about("number: on a stack of at most 8");
        EDGES.taken(1, NOTHING, x -> x.number(0));
        EDGES.taken(8, Scenes.stack(7), x -> x.number(0));
        EDGES.refused(Edges.STATE, Scenes.stack(8), x -> x.number(0));
        EDGES.refused(Edges.STATE, Scenes::full, x -> x.number(1000000));
        EDGES.refused(Edges.ARGUMENT, Scenes.stack(8), x -> x.number(-1));
        EDGES.refused(Edges.ARGUMENT, Scenes.stack(8), x -> x.number(1000001));
    }

    // ---- term

    private static void termsThatThereAre() {
        EDGES.about("term: those that there are");
        EDGES.refused(Edges.INDEX, NOTHING, x -> x.term(0));
        EDGES.refused(Edges.INDEX, Scenes.stack(2), x -> x.term(0));
        EDGES.taken(1, Scenes.numberTerms(1), x -> x.term(0));
        EDGES.refused(Edges.INDEX, Scenes.numberTerms(1), x -> x.term(1));
        EDGES.range(0, 2, Edges.INDEX, Scenes::some, (x, term) -> x.term(term));
        EDGES.range(0, 9, Edges.INDEX, Scenes.numberTerms(10), (x, term) -> x.term(term));
        EDGES.taken(1, Scenes.numberTerms(10), x -> x.term(9));
    }

    private static void termOfLevel5And6() {
        EDGES.about("term: of the level 5, but not 6");
        Scenes.Scene both = Scenes.levels(6, 5).then(x -> {
            x.define();
            x.define();
        });
        EDGES.taken(1, both, x -> x.term(0));
        EDGES.refused(Edges.STATE, both, x -> x.term(1));
        EDGES.refused(Edges.STATE, both.then(x -> x.term(0)), x -> x.year());
        EDGES.refused(Edges.STATE, both.then(x -> {
            x.term(0);
            x.define();
        }), x -> x.term(2));
        // What amends a term of the level 6 may have a lower one, and the term keeps its own.
        EDGES.refused(Edges.STATE, both.then(x -> {
            x.number(1);
            x.amend(1, 0);
        }), x -> x.term(1));
    }

    private static void termOnAStackOf8() {
        EDGES.about("term: on a stack of at most 8");
        EDGES.taken(8, Scenes.numberTerms(2).then(Scenes.stack(7)), x -> x.term(1));
        EDGES.refused(Edges.STATE, Scenes.numberTerms(2).then(Scenes.stack(8)), x -> x.term(1));
        EDGES.refused(Edges.INDEX, Scenes.numberTerms(2).then(Scenes.stack(8)), x -> x.term(2));
        EDGES.refused(Edges.STATE, Scenes::full, x -> x.term(0));
        EDGES.refused(Edges.INDEX, Scenes::full, x -> x.term(10));
        EDGES.refused(Edges.INDEX, Scenes::full, x -> x.term(-1));
    }

    // ---- join

    private static void joinOfKinds0To3() {
        EDGES.about("join: SUM, LESS, LESSER and GREATER");
        EDGES.range(0, 3, Edges.ARGUMENT, Scenes::some, (x, kind) -> x.join(kind));
        EDGES.refusedAlways(Edges.ARGUMENT, x -> x.join(-1));
        EDGES.refusedAlways(Edges.ARGUMENT, x -> x.join(4));
        EDGES.refused(Edges.ARGUMENT, Scenes.levels(6, 6), x -> x.join(4));
    }

    private static void joinOfTwoAtLeast() {
        EDGES.about("join: of two at least");
        EDGES.refused(Edges.STATE, NOTHING, x -> x.join(0));
        EDGES.refused(Edges.STATE, Scenes.stack(1), x -> x.join(3));
        EDGES.taken(1, Scenes.stack(2), x -> x.join(3));
        EDGES.refused(Edges.STATE, Scenes.stack(2).then(x -> x.join(1)), x -> x.join(1));
        EDGES.refused(Edges.STATE, Scenes.stack(2).then(x -> x.define()), x -> x.join(0));
        EDGES.refused(Edges.STATE, Scenes.stack(8).then(x -> x.clear()), x -> x.join(0));
    }

    private static void joinOfLevels5And6() {
        EDGES.about("join: of levels up to 5, but not 6");
        EDGES.taken(1, Scenes.levels(5, 5), x -> x.join(0));
        EDGES.taken(1, Scenes.levels(5, 1), x -> x.join(1));
        EDGES.taken(1, Scenes.levels(1, 5), x -> x.join(2));
        EDGES.refused(Edges.STATE, Scenes.levels(6, 1), x -> x.join(0));
        EDGES.refused(Edges.STATE, Scenes.levels(1, 6), x -> x.join(1));
        EDGES.refused(Edges.STATE, Scenes.levels(5, 6), x -> x.join(2));
        EDGES.refused(Edges.STATE, Scenes.levels(6, 5), x -> x.join(3));
        EDGES.refused(Edges.STATE, Scenes.levels(6, 6), x -> x.join(3));
        EDGES.taken(2, Scenes.levels(6, 1, 1), x -> x.join(3));
        levelIs(6, Scenes.levels(5, 1).then(x -> x.join(0)));
        levelIs(6, Scenes.levels(1, 5).then(x -> x.join(3)));
        levelIs(2, Scenes.levels(1, 1).then(x -> x.join(2)));
    }

    private static void levelIs(int want, Scenes.Scene scene) {
        Covenanter x = Scenes.made(scene);
        EDGES.due(0, () -> x.define());
        EDGES.due(want, () -> x.level(0));
    }

    private static void joinAnswersHeights() {
        EDGES.about("join: how many there are then, from a stack of 8 down to 1");
        Covenanter x = Scenes.made(Scenes.stack(8));
        for (int height = 7; height >= 4; height--) {
            int h = height;
            EDGES.due(h, () -> x.join(0));
        }
        EDGES.due(4, () -> x.clear());
    }

    private static void joinOfEqualValues() {
        EDGES.about("join: of equal values, and of values one apart");
        long[][] wants = {{10, 0, 5, 5}, {11, -1, 5, 6}, {11, 1, 5, 6}, {-1, 1, -1, 0}};
        int[][] pairs = {{5, 5}, {5, 6}, {6, 5}, {0, -1}};
        for (int kind = 0; kind < 4; kind++) {
            int k = kind;
            Covenanter x = Scenes.made(Scenes.levels(1));
            x.account(1);
            x.join(kind);
            x.define();
            for (int quarter = 0; quarter < pairs.length; quarter++) {
                int q = quarter;
                x.amount(0, q, pairs[q][0]);
                x.amount(1, q, pairs[q][1]);
                EDGES.due(wants[q][k], () -> x.value(0, q));
            }
        }
    }

    private static void joinOfTheTwoUpperOnes() {
        EDGES.about("join: the two upper ones of the stack, the lower one first");
        Covenanter x = Scenes.made(Scenes.stack(8));
        x.join(Covenanter.LESS);
        x.define();
        x.define();
        EDGES.dueText(x, 0, 0, "(7 - 8)");
        EDGES.due(-1, () -> x.value(0, 0));
        EDGES.dueText(x, 1, 0, "6");
        EDGES.due(5, () -> x.clear());
    }

    private static void joinOfMadeFormulas() {
        EDGES.about("join: of formulas that are made of others, on both sides");
        Covenanter x = new Covenanter();
        x.account(0);
        x.share(50);
        x.account(1);
        x.year();
        x.join(Covenanter.LESS);
        x.account(2);
        x.number(3);
        x.join(Covenanter.SUM);
        x.join(Covenanter.LESS);
        x.define();
        EDGES.due(4, () -> x.level(0));
        EDGES.dueText(x, 0, 0, "((50% of A0 - year(A1)) - (A2 + 3))");
        EDGES.due(-3, () -> x.value(0, 1));
        x.amount(0, 1, 7);
        EDGES.due(0, () -> x.value(0, 1));
        x.amount(1, 0, 10);
        EDGES.due(-10, () -> x.value(0, 1));
        x.amount(2, 1, -100);
        EDGES.due(90, () -> x.value(0, 1));
    }

    private static void joinUpToTheLevel6OnEitherSide() {
        EDGES.about("join: up to the level 6, by the one or by the other one");
        Covenanter x = Scenes.made(Scenes.levels(1, 1, 1, 1, 1, 1));
        for (int joins = 1; joins <= 5; joins++) {
            x.join(Covenanter.SUM);
        }
        x.define();
        x.account(0);
        for (int joins = 1; joins <= 5; joins++) {
            x.account(0);
            x.join(Covenanter.SUM);
        }
        x.define();
        EDGES.dueText(x, 0, 0, "(A0 + (A0 + (A0 + (A0 + (A0 + A0)))))");
        EDGES.dueText(x, 1, 0, "(((((A0 + A0) + A0) + A0) + A0) + A0)");
        for (int quarter = 0; quarter < 20; quarter++) {
            int q = quarter;
            x.amount(0, q, 1 + q);
            EDGES.due(6 * (1 + q), () -> x.value(0, q));
            EDGES.due(6 * (1 + q), () -> x.value(1, q));
        }
        EDGES.due(6, () -> x.level(0));
        EDGES.due(6, () -> x.level(1));
    }

    // ---- share

    private static void sharesFrom0To100() {
        EDGES.about("share: 0 to 100");
        EDGES.range(0, 100, Edges.ARGUMENT, Scenes::some, (x, percents) -> x.share(percents));
        EDGES.refusedAlways(Edges.ARGUMENT, x -> x.share(-1));
        EDGES.refusedAlways(Edges.ARGUMENT, x -> x.share(101));
        EDGES.refused(Edges.ARGUMENT, Scenes.levels(6), x -> x.share(101));
    }

    private static void shareOfSomething() {
        EDGES.about("share: of a formula that there is");
        EDGES.refused(Edges.STATE, NOTHING, x -> x.share(0));
        EDGES.refused(Edges.STATE, NOTHING, x -> x.share(100));
        EDGES.refused(Edges.STATE, Scenes.stack(8).then(x -> x.clear()), x -> x.share(50));
        EDGES.refused(Edges.STATE, Scenes.numberTerms(1), x -> x.share(50));
        EDGES.taken(2, Scenes.stack(1), x -> x.share(50));
    }

    private static void shareOfLevels5And6() {
        EDGES.about("share: of levels up to 5, but not 6");
        for (int level = 1; level <= 5; level++) {
            EDGES.taken(level + 1, Scenes.levels(6, level), x -> x.share(50));
        }
        EDGES.refused(Edges.STATE, Scenes.levels(6), x -> x.share(50));
        EDGES.refused(Edges.STATE, Scenes.levels(1, 6), x -> x.share(0));
    }

    private static void shareIsRoundedDown() {
        EDGES.about("share: divided by 100, rounded down");
        int[] amounts = {0, 1, -1, 99, -99, 100, -100, 101, -101, 199, -199, 200, -200, 1000000, -1000000};
        long[] hundredths = {0, 0, -1, 0, -1, 1, -1, 1, -2, 1, -2, 2, -2, 10000, -10000};
        Covenanter x = Scenes.made(y -> {
            for (int percents : new int[] {1, 0, 100, 99}) {
                y.account(0);
                y.share(percents);
                y.define();
            }
        });
        Scenes.setAmounts(x, 0, amounts);
        for (int quarter = 0; quarter < amounts.length; quarter++) {
            int q = quarter;
            EDGES.due(hundredths[q], () -> x.value(0, q));
            EDGES.due(0, () -> x.value(1, q));
            EDGES.due(amounts[q], () -> x.value(2, q));
        }
        EDGES.due(0, () -> x.value(3, 1));
        EDGES.due(-1, () -> x.value(3, 2));
        EDGES.due(98, () -> x.value(3, 3));
        EDGES.due(-99, () -> x.value(3, 4));
        EDGES.dueText(x, 0, 0, "1% of A0");
        EDGES.dueText(x, 1, 0, "0% of A0");
        EDGES.dueText(x, 2, 0, "100% of A0");
    }

    // ---- year

    private static void yearOfSomething() {
        EDGES.about("year: of a formula that there is");
        EDGES.refused(Edges.STATE, NOTHING, x -> x.year());
        EDGES.refused(Edges.STATE, Scenes.stack(8).then(x -> x.clear()), x -> x.year());
        EDGES.refused(Edges.STATE, Scenes.numberTerms(1), x -> x.year());
        EDGES.taken(2, Scenes.stack(1), x -> x.year());
    }

    private static void yearOfLevels5And6() {
        EDGES.about("year: of levels up to 5, but not 6");
        for (int level = 1; level <= 5; level++) {
            EDGES.taken(level + 1, Scenes.levels(6, level), x -> x.year());
        }
        EDGES.refused(Edges.STATE, Scenes.levels(6), x -> x.year());
        EDGES.refused(Edges.STATE, Scenes.levels(1, 6), x -> x.year());
    }

    private static void yearAsFarAsThereAreQuarters() {
        EDGES.about("year: the quarter and the three ahead of it, as far as there are");
        Covenanter x = Scenes.made(y -> {
            y.account(0);
            y.year();
            y.define();
        });
        for (int told = 0; told < 20; told++) {
            x.amount(0, told, -3);
            for (int quarter = 0; quarter < 20; quarter++) {
                int q = quarter;
                EDGES.due(q >= told && q <= told + 3 ? -3 : 0, () -> x.value(0, q));
            }
            x.amount(0, told, 0);
        }
    }

    private static void shareAndYearOnAStackOf8() {
        EDGES.about("share and year: of the uppermost one of a full stack");
        Covenanter x = Scenes.made(Scenes.stack(8));
        EDGES.due(2, () -> x.share(25));
        EDGES.due(3, () -> x.year());
        EDGES.due(0, () -> x.define());
        EDGES.dueText(x, 0, 0, "year(25% of 8)");
        EDGES.due(1, () -> x.define());
        EDGES.dueText(x, 1, 0, "7");
        EDGES.due(6, () -> x.clear());
    }

    // ---- clear

    private static void clearOfNothingAndOf8() {
        EDGES.about("clear: of nothing, of 1 and of 8, and of formulas alone");
        for (int height = 0; height <= 8; height++) {
            EDGES.taken(height, Scenes.stack(height), x -> x.clear());
            EDGES.taken(0, Scenes.stack(height).then(x -> x.clear()), x -> x.clear());
        }
        Covenanter x = Scenes.made(Scenes::full);
        EDGES.due(8, () -> x.clear());
        EDGES.due(10, () -> x.terms());
        EDGES.due(60, () -> x.value(0, 0));
        Scenes.fillStack(x);
        EDGES.due(8, () -> x.clear());
    }
}
