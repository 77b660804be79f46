/** The edges of promises 17 to 24: tests, their limits, wakes, cures, waivers, states and room. */
public final class TestEdgesTest {
    private static final Edges EDGES = new Edges("TestEdgesTest");
    private static final Scenes.Scene NOTHING = Scenes.NOTHING;

    public static void main(String[] args) {
        testOfTermsThatThereAre();
        testsFrom0To5();
        testHasNothingAtFirst();
        testOfOneTermTwice();
        limitOfTestsAndQuarters();
        limitFrom0To10000();
        limitThrowsInOrder();
        limitCountsLimits();
        limitHoldsUpToTheNextOne();
        limitForTheSameQuarter();
        limitIsThatOfItsTestAlone();
        wakeOfTestsThatThereAre();
        wakeByAccounts0To5OrNone();
        wakeWithinAMillion();
        wakeThrowsInOrder();
        wakeIsTakenBackByNone();
        testSleepsBelowTheLeastAmount();
        testSleepsByQuarters();
        cureOfTestsAndQuarters();
        cureFrom1ToAMillion();
        cureThrowsInOrder();
        cureOncePerQuarter();
        curesInFourQuarters();
        curesAtTheEndsOfAllQuarters();
        curesInAllPlaces();
        cureIsForItsPlaceAlone();
        waiveOfTestsAndQuarters();
        waiveIsTakenBack();
        stateOfTestsAndQuarters();
        stateKeptUpToTheLimit();
        stateKeptByABottomAbove0();
        stateCuredUpToTheLimit();
        stateCuredByABottomAbove0();
        statesInTheirOrder();
        stateUnderGreatestNumbers();
        roomOfTestsAndQuarters();
        roomFromTheFirstLimitOn();
        roomOfABottomAbove0();
        roomIsRoundedDown();
        roomOf0AndBelow();
        roomUnderGreatestNumbers();
        brokenFromNoneTo120();
        brokenCountsNoOtherStates();
        EDGES.end();
    }

    // ---- test

    private static void testOfTermsThatThereAre() {
        EDGES.about("test: of terms that there are");
        EDGES.refused(Edges.INDEX, NOTHING, x -> x.test(0, 0));
        EDGES.refused(Edges.INDEX, Scenes.stack(2), x -> x.test(0, 0));
        EDGES.range(0, 0, Edges.INDEX, Scenes.numberTerms(1), (x, top) -> x.test(top, 0));
        EDGES.range(0, 0, Edges.INDEX, Scenes.numberTerms(1), (x, bottom) -> x.test(0, bottom));
        EDGES.range(0, 9, Edges.INDEX, Scenes.numberTerms(10), (x, top) -> x.test(top, 0));
        EDGES.range(0, 9, Edges.INDEX, Scenes.numberTerms(10), (x, bottom) -> x.test(0, bottom));
        EDGES.refusedBeyond(0, 9, Edges.INDEX, Scenes::full, (x, top) -> x.test(top, 0));
        EDGES.refusedBeyond(0, 9, Edges.INDEX, Scenes::full, (x, bottom) -> x.test(0, bottom));
    }

    private static void testsFrom0To5() {
        EDGES.about("test: 6 at most");
        for (int count = 0; count < 6; count++) {
            EDGES.taken(count, Scenes.tests(count), x -> x.test(0, 1));
        }
        EDGES.refused(Edges.STATE, Scenes.tests(6), x -> x.test(0, 1));
        EDGES.refused(Edges.STATE, Scenes::full, x -> x.test(9, 9));
    }

    private static void testHasNothingAtFirst() {
        EDGES.about("test: without limits, cures and waivers, and never asleep for an account");
        Scenes.Scene scene = Scenes.tests(5).then(x -> x.test(0, 1));
        for (int quarter = 0; quarter < 20; quarter++) {
            int q = quarter;
            EDGES.taken(Covenanter.ASLEEP, scene, x -> x.state(5, q));
            EDGES.taken(1, scene, x -> x.waive(5, q) ? 1 : 0);
            EDGES.taken(1, scene, x -> x.cure(5, q, 1));
            EDGES.taken(1, scene, x -> x.limit(5, q, 1));
        }
        EDGES.taken(Covenanter.NONE, scene, x -> x.wake(5, 0, 0));
        Covenanter x = Scenes.made(scene);
        for (int account = 0; account < 6; account++) {
            x.amount(account, 0, -1000000);
        }
        x.limit(5, 0, 0);
        EDGES.due(Covenanter.BROKEN, () -> x.state(5, 0));
    }

    private static void testOfOneTermTwice() {
        EDGES.about("test: of one term as top and bottom");
        Covenanter x = Scenes.withAccountTerms(1);
        EDGES.due(0, () -> x.test(0, 0));
        x.amount(0, 0, 1);
        x.limit(0, 0, 99);
        EDGES.due(Covenanter.BROKEN, () -> x.state(0, 0));
        x.limit(0, 0, 100);
        EDGES.due(Covenanter.KEPT, () -> x.state(0, 0));
    }

    // ---- limit

    private static void limitOfTestsAndQuarters() {
        EDGES.about("limit: of tests that there are, in quarters 0 to 19");
        EDGES.refused(Edges.INDEX, NOTHING, x -> x.limit(0, 0, 0));
        EDGES.refused(Edges.INDEX, Scenes.numberTerms(10), x -> x.limit(0, 0, 0));
        EDGES.range(0, 1, Edges.INDEX, Scenes::some, (x, test) -> x.limit(test, 2, 7));
        EDGES.range(0, 5, Edges.INDEX, Scenes::full, (x, test) -> x.limit(test, 2, 7));
        EDGES.range(0, 19, Edges.INDEX, Scenes::some, (x, quarter) -> x.limit(0, quarter, 7));
        EDGES.range(0, 19, Edges.INDEX, Scenes::full, (x, quarter) -> x.limit(5, quarter, 7));
    }

    private static void limitFrom0To10000() {
        EDGES.about("limit: 0 to 10000");
        EDGES.range(0, 10000, Edges.ARGUMENT, Scenes::some, (x, limit) -> x.limit(0, 0, limit));
        EDGES.range(0, 10000, Edges.ARGUMENT, Scenes::full, (x, limit) -> x.limit(5, 19, limit));
        Covenanter x = Scenes.made(Scenes.tests(1));
        x.amount(1, 0, 1);
        x.limit(0, 0, 0);
        EDGES.due(Covenanter.KEPT, () -> x.state(0, 0));
        x.amount(0, 0, 1);
        EDGES.due(Covenanter.BROKEN, () -> x.state(0, 0));
        x.limit(0, 0, 10000);
        x.amount(0, 0, 100);
        EDGES.due(Covenanter.KEPT, () -> x.state(0, 0));
        x.amount(0, 0, 101);
        EDGES.due(Covenanter.BROKEN, () -> x.state(0, 0));
    }

    private static void limitThrowsInOrder() {
        EDGES.about("limit: no such test or quarter ahead of the range");
        EDGES.refusedAlways(Edges.INDEX, x -> x.limit(6, 0, -1));
        EDGES.refusedAlways(Edges.INDEX, x -> x.limit(0, 20, 10001));
        EDGES.refusedAlways(Edges.INDEX, x -> x.limit(-1, 0, 10001));
    }

    private static void limitCountsLimits() {
        EDGES.about("limit: how many there are then, up to 20");
        Covenanter x = Scenes.made(Scenes.accountTerms(2).then(y -> y.test(0, 1)));
        for (int quarter = 19; quarter >= 0; quarter--) {
            int q = quarter;
            EDGES.due(20 - q, () -> x.limit(0, q, q));
            EDGES.due(20 - q, () -> x.limit(0, q, 100 * q));
        }
        EDGES.due(20, () -> x.limit(0, 0, 0));
        x.test(0, 1);
        EDGES.due(1, () -> x.limit(1, 0, 0));
    }

    private static void limitHoldsUpToTheNextOne() {
        EDGES.about("limit: holds from its quarter on up to the next one, and none ahead of the first");
        Covenanter x = Scenes.made(Scenes.accountTerms(2).then(y -> y.test(0, 1)));
        for (int quarter = 0; quarter < 20; quarter++) {
            x.amount(1, quarter, 100);
        }
        x.limit(0, 12, 12);
        x.limit(0, 3, 3);
        x.limit(0, 4, 4);
        x.limit(0, 19, 0);
        int[] wants = {-1, -1, -1, 3, 4, 4, 4, 4, 4, 4, 4, 4, 12, 12, 12, 12, 12, 12, 12, 0};
        for (int quarter = 0; quarter < 20; quarter++) {
            int q = quarter;
            if (wants[q] >= 0) {
                EDGES.due(wants[q], () -> x.room(0, q));
                EDGES.due(Covenanter.KEPT, () -> x.state(0, q));
            } else {
                EDGES.due(Covenanter.ASLEEP, () -> x.state(0, q));
            }
        }
    }

    private static void limitForTheSameQuarter() {
        EDGES.about("limit: takes the place of the one for the same quarter");
        Covenanter x = Scenes.made(Scenes.tests(1));
        x.amount(1, 0, 100);
        EDGES.due(100, () -> x.room(0, 0));
        EDGES.due(1, () -> x.limit(0, 0, 0));
        EDGES.due(0, () -> x.room(0, 0));
        EDGES.due(1, () -> x.limit(0, 0, 10000));
        EDGES.due(10000, () -> x.room(0, 0));
    }

    private static void limitIsThatOfItsTestAlone() {
        EDGES.about("limit: of its test alone");
        Covenanter x = Scenes.made(Scenes.tests(6));
        x.amount(1, 0, 100);
        x.limit(3, 0, 50);
        for (int test = 0; test < 6; test++) {
            int t = test;
            EDGES.due(t == 3 ? 50 : 100, () -> x.room(t, 0));
        }
    }

    // ---- wake

    private static void wakeOfTestsThatThereAre() {
        EDGES.about("wake: of tests that there are");
        EDGES.refused(Edges.INDEX, NOTHING, x -> x.wake(0, 0, 0));
        EDGES.refused(Edges.INDEX, NOTHING, x -> x.wake(0, Covenanter.NONE, 0));
        EDGES.refused(Edges.INDEX, Scenes.numberTerms(10), x -> x.wake(0, 0, 0));
        EDGES.range(0, 1, Edges.INDEX, Scenes::some, (x, test) -> x.wake(test, 0, 999));
        EDGES.range(0, 5, Edges.INDEX, Scenes::full, (x, test) -> x.wake(test, 0, 999));
        EDGES.range(0, 5, Edges.INDEX, Scenes::full, (x, test) -> x.wake(test, Covenanter.NONE, 0));
    }

    private static void wakeByAccounts0To5OrNone() {
        EDGES.about("wake: by accounts 0 to 5, or NONE");
        EDGES.range(-1, 5, Edges.INDEX, Scenes::some, (x, account) -> x.wake(0, account, 999));
        EDGES.range(-1, 5, Edges.INDEX, Scenes::full, (x, account) -> x.wake(5, account, 999));
        Covenanter x = Scenes.made(Scenes.tests(2));
        int before = Covenanter.NONE;
        for (int account : new int[] {0, 1, 2, 3, 4, 5, 5, Covenanter.NONE, Covenanter.NONE, 0}) {
            int want = before;
            EDGES.due(want, () -> x.wake(1, account, 0));
            before = account;
        }
        EDGES.due(Covenanter.NONE, () -> x.wake(0, 0, 0));
    }

    private static void wakeWithinAMillion() {
        EDGES.about("wake: -1000000 to 1000000, with NONE as well");
        EDGES.range(-1000000, 1000000, Edges.ARGUMENT, Scenes::some, (x, least) -> x.wake(0, 2, least));
        EDGES.range(-1000000, 1000000, Edges.ARGUMENT, Scenes::some, (x, least) -> x.wake(1, 5, least));
        EDGES.range(-1000000, 1000000, Edges.ARGUMENT, Scenes::some,
            (x, least) -> x.wake(0, Covenanter.NONE, least));
        Covenanter x = Scenes.made(Scenes.tests(1));
        x.amount(2, 0, 1000000);
        x.amount(2, 1, 999999);
        x.amount(2, 2, -1000000);
        x.wake(0, 2, 1000000);
        EDGES.due(Covenanter.BROKEN, () -> x.state(0, 0));
        EDGES.due(Covenanter.ASLEEP, () -> x.state(0, 1));
        x.wake(0, 2, -999999);
        EDGES.due(Covenanter.ASLEEP, () -> x.state(0, 2));
        x.wake(0, 2, -1000000);
        EDGES.due(Covenanter.BROKEN, () -> x.state(0, 2));
    }

    private static void wakeThrowsInOrder() {
        EDGES.about("wake: no such test or account ahead of the range");
        EDGES.refusedAlways(Edges.INDEX, x -> x.wake(6, 0, 1000001));
        EDGES.refusedAlways(Edges.INDEX, x -> x.wake(-1, Covenanter.NONE, -1000001));
        EDGES.refusedAlways(Edges.INDEX, x -> x.wake(0, 6, 1000001));
        EDGES.refusedAlways(Edges.INDEX, x -> x.wake(0, -2, -1000001));
    }

    private static void wakeIsTakenBackByNone() {
        EDGES.about("wake: with NONE the test sleeps for no account, whatever the least amount");
        for (int least : new int[] {-1000000, 0, 1000000}) {
            Covenanter x = Scenes.made(Scenes.tests(1));
            x.wake(0, 2, 1000000);
            EDGES.due(0, () -> x.broken());
            EDGES.due(2, () -> x.wake(0, Covenanter.NONE, least));
            EDGES.due(20, () -> x.broken());
        }
    }

    private static void testSleepsBelowTheLeastAmount() {
        EDGES.about("wake: asleep below the least amount, not at it");
        for (int least : new int[] {-5, 0, 1, 7}) {
            Covenanter x = Scenes.made(Scenes.tests(2));
            Scenes.setAmounts(x, 4, least - 1, least, least + 1);
            x.wake(1, 4, least);
            EDGES.due(Covenanter.ASLEEP, () -> x.state(1, 0));
            EDGES.due(Covenanter.BROKEN, () -> x.state(1, 1));
            EDGES.due(Covenanter.BROKEN, () -> x.state(1, 2));
            EDGES.due(Covenanter.BROKEN, () -> x.state(0, 0));
        }
    }

    private static void testSleepsByQuarters() {
        EDGES.about("wake: by the amount of the account in the quarter itself");
        Covenanter x = Scenes.made(Scenes.tests(1));
        x.wake(0, 5, 1);
        for (int awake = 0; awake < 20; awake++) {
            x.amount(5, awake, 1);
            for (int quarter = 0; quarter < 20; quarter += 19) {
                int q = quarter;
                EDGES.due(q == awake ? Covenanter.BROKEN : Covenanter.ASLEEP, () -> x.state(0, q));
            }
            EDGES.due(1, () -> x.broken());
            x.amount(5, awake, 0);
        }
    }

    // ---- cure

    private static void cureOfTestsAndQuarters() {
        EDGES.about("cure: of tests that there are, in quarters 0 to 19");
        EDGES.refused(Edges.INDEX, NOTHING, x -> x.cure(0, 0, 1));
        EDGES.refused(Edges.INDEX, Scenes.numberTerms(10), x -> x.cure(0, 0, 1));
        EDGES.range(0, 1, Edges.INDEX, Scenes::some, (x, test) -> x.cure(test, 17, 5));
        EDGES.range(0, 5, Edges.INDEX, Scenes::full, (x, test) -> x.cure(test, 15, 5));
        EDGES.range(0, 19, Edges.INDEX, Scenes::some, (x, quarter) -> x.cure(0, quarter, 5));
        EDGES.range(0, 19, Edges.INDEX, Scenes::full, (x, quarter) -> x.cure(1, quarter, 5));
    }

    private static void cureFrom1ToAMillion() {
        EDGES.about("cure: 1 to 1000000");
        EDGES.range(1, 1000000, Edges.ARGUMENT, Scenes::some, (x, money) -> x.cure(0, 0, money));
        EDGES.range(1, 1000000, Edges.ARGUMENT, Scenes::full, (x, money) -> x.cure(5, 16, money));
        EDGES.refused(Edges.ARGUMENT, Scenes::some, x -> x.cure(0, 0, -1));
        Covenanter x = Scenes.made(Scenes.tests(1));
        x.cure(0, 0, 1);
        EDGES.due(1, () -> x.room(0, 0));
        x.cure(0, 19, 1000000);
        EDGES.due(1000000, () -> x.room(0, 19));
    }

    private static void cureThrowsInOrder() {
        EDGES.about("cure: no such test or quarter, the range, then a cure or two that there are");
        EDGES.refusedAlways(Edges.INDEX, x -> x.cure(6, 1, 0));
        EDGES.refusedAlways(Edges.INDEX, x -> x.cure(0, 20, 1000001));
        EDGES.refused(Edges.ARGUMENT, Scenes::some, x -> x.cure(0, 1, 0));
        EDGES.refused(Edges.ARGUMENT, Scenes::full, x -> x.cure(0, 1, 1000001));
        EDGES.refused(Edges.STATE, Scenes::some, x -> x.cure(0, 1, 1));
        EDGES.refused(Edges.STATE, Scenes::full, x -> x.cure(0, 1, 1000000));
    }

    private static void cureOncePerQuarter() {
        EDGES.about("cure: one in a quarter");
        for (int quarter : new int[] {0, 7, 19}) {
            Scenes.Scene cured = Scenes.tests(2).then(x -> x.cure(0, quarter, 4));
            EDGES.refused(Edges.STATE, cured, x -> x.cure(0, quarter, 5));
            EDGES.taken(1, cured, x -> x.cure(1, quarter, 5));
        }
    }

    private static void curesInFourQuarters() {
        EDGES.about("cure: two in four quarters that follow one another, for each two and each third one");
        for (int first = 0; first < 20; first++) {
            for (int second = first + 1; second < 20 && second < first + 6; second++) {
                int f = first;
                int s = second;
                Scenes.Scene two = Scenes.tests(1).then(x -> x.cure(0, f, 1)).then(x -> x.cure(0, s, 1));
                for (int third = 0; third < 20; third++) {
                    int t = third;
                    int spread = Math.max(s, t) - Math.min(f, t);
                    if (t == f || t == s || spread <= 3) {
                        EDGES.throwsOnly(Edges.STATE, two, x -> x.cure(0, t, 1));
                    } else {
                        EDGES.taken(3, two, x -> x.cure(0, t, 1));
                    }
                }
            }
        }
    }

    private static void curesAtTheEndsOfAllQuarters() {
        EDGES.about("cure: two in the first four quarters, and in the last four ones");
        Scenes.Scene ends = Scenes.tests(1).then(x -> {
            x.cure(0, 0, 1);
            x.cure(0, 3, 1);
            x.cure(0, 16, 1);
            x.cure(0, 19, 1);
        });
        for (int quarter : new int[] {0, 1, 2, 3, 16, 17, 18, 19}) {
            EDGES.refused(Edges.STATE, ends, x -> x.cure(0, quarter, 1));
        }
        EDGES.taken(5, ends, x -> x.cure(0, 4, 1));
        EDGES.taken(5, ends, x -> x.cure(0, 15, 1));
    }

    private static void curesInAllPlaces() {
        EDGES.about("cure: 10 in all quarters, and no more");
        Scenes.Scene all = Scenes.tests(2).then(x -> {
            for (int quarter = 0; quarter < 20; quarter += 4) {
                x.cure(0, quarter, 1);
                x.cure(0, quarter + 1, 1);
            }
        });
        for (int quarter = 0; quarter < 20; quarter++) {
            int q = quarter;
            EDGES.refused(Edges.STATE, all, x -> x.cure(0, q, 1));
            EDGES.taken(1, all, x -> x.cure(1, q, 1));
        }
    }

    private static void cureIsForItsPlaceAlone() {
        EDGES.about("cure: added in its quarter, for its test alone");
        Covenanter x = Scenes.made(Scenes.tests(6));
        for (int quarter = 0; quarter < 20; quarter++) {
            x.amount(1, quarter, 1);
        }
        x.cure(2, 7, 50);
        for (int test = 0; test < 6; test++) {
            for (int quarter = 0; quarter < 20; quarter++) {
                int t = test;
                int q = quarter;
                EDGES.due(t == 2 && q == 7 ? 51 : 1, () -> x.room(t, q));
            }
        }
        EDGES.due(1, () -> x.value(1, 7));
    }

    // ---- waive

    private static void waiveOfTestsAndQuarters() {
        EDGES.about("waive: of tests that there are, in quarters 0 to 19");
        EDGES.refused(Edges.INDEX, NOTHING, x -> x.waive(0, 0) ? 1 : 0);
        EDGES.refused(Edges.INDEX, Scenes.numberTerms(10), x -> x.waive(0, 0) ? 1 : 0);
        EDGES.range(0, 1, Edges.INDEX, Scenes::some, (x, test) -> x.waive(test, 3) ? 1 : 0);
        EDGES.range(0, 5, Edges.INDEX, Scenes::full, (x, test) -> x.waive(test, 3) ? 1 : 0);
        EDGES.range(0, 19, Edges.INDEX, Scenes::some, (x, quarter) -> x.waive(0, quarter) ? 1 : 0);
        EDGES.range(0, 19, Edges.INDEX, Scenes::full, (x, quarter) -> x.waive(5, quarter) ? 1 : 0);
    }

    private static void waiveIsTakenBack() {
        EDGES.about("waive: taken back by the next one, in its quarter and for its test alone");
        Covenanter x = Scenes.made(Scenes.tests(2));
        for (int quarter = 0; quarter < 20; quarter++) {
            int q = quarter;
            EDGES.due(1, () -> x.waive(0, q) ? 1 : 0);
            EDGES.due(Covenanter.WAIVED, () -> x.state(0, q));
            EDGES.due(Covenanter.BROKEN, () -> x.state(1, q));
            EDGES.due(39, () -> x.broken());
            EDGES.due(0, () -> x.waive(0, q) ? 1 : 0);
            EDGES.due(Covenanter.BROKEN, () -> x.state(0, q));
        }
        EDGES.due(1, () -> x.waive(0, 19) ? 1 : 0);
    }

    // ---- state

    private static void stateOfTestsAndQuarters() {
        EDGES.about("state: of tests that there are, in quarters 0 to 19");
        EDGES.refused(Edges.INDEX, NOTHING, x -> x.state(0, 0));
        EDGES.refused(Edges.INDEX, Scenes.numberTerms(10), x -> x.state(0, 0));
        EDGES.range(0, 1, Edges.INDEX, Scenes::some, (x, test) -> x.state(test, 3));
        EDGES.range(0, 5, Edges.INDEX, Scenes::full, (x, test) -> x.state(test, 3));
        EDGES.range(0, 19, Edges.INDEX, Scenes::some, (x, quarter) -> x.state(0, quarter));
        EDGES.range(0, 19, Edges.INDEX, Scenes::full, (x, quarter) -> x.state(5, quarter));
    }

    /** The state of a test in the quarter 0, by its top, its bottom, a limit and a cure or 0. */
    private static void stateOf(int want, int top, int bottom, int limit, int cure) {
        Covenanter x = Scenes.made(Scenes.tests(1));
        x.amount(0, 0, top);
        x.amount(1, 0, bottom);
        x.limit(0, 0, limit);
        if (cure > 0) {
            x.cure(0, 0, cure);
        }
        EDGES.due(want, () -> x.state(0, 0));
    }

    private static void stateKeptUpToTheLimit() {
        EDGES.about("state: kept up to the limit times the bottom's value, and no further");
        stateOf(Covenanter.KEPT, 30, 10, 300, 0);
        stateOf(Covenanter.BROKEN, 31, 10, 300, 0);
        stateOf(Covenanter.BROKEN, 30, 10, 299, 0);
        stateOf(Covenanter.KEPT, 1, 3, 34, 0);
        stateOf(Covenanter.BROKEN, 1, 3, 33, 0);
        stateOf(Covenanter.KEPT, 0, 1, 0, 0);
        stateOf(Covenanter.BROKEN, 1, 1000000, 0, 0);
        stateOf(Covenanter.KEPT, -1, 1, 0, 0);
        stateOf(Covenanter.KEPT, -1000000, 1, 0, 0);
    }

    private static void stateKeptByABottomAbove0() {
        EDGES.about("state: not kept by a bottom of 0 or less");
        stateOf(Covenanter.KEPT, 0, 1, 100, 0);
        stateOf(Covenanter.BROKEN, 0, 0, 100, 0);
        stateOf(Covenanter.BROKEN, -1000000, 0, 100, 0);
        stateOf(Covenanter.BROKEN, 0, -1, 100, 0);
        stateOf(Covenanter.BROKEN, -1000000, -1, 10000, 0);
        stateOf(Covenanter.BROKEN, -1, -1, 0, 0);
    }

    private static void stateCuredUpToTheLimit() {
        EDGES.about("state: cured up to the limit times the bottom's value and the cure, and no further");
        stateOf(Covenanter.CURED, 33, 10, 300, 1);
        stateOf(Covenanter.BROKEN, 34, 10, 300, 1);
        stateOf(Covenanter.CURED, 34, 10, 300, 2);
        stateOf(Covenanter.CURED, 31, 10, 300, 1);
        stateOf(Covenanter.KEPT, 30, 10, 300, 1);
        stateOf(Covenanter.BROKEN, 1, 10, 0, 1000000);
    }

    private static void stateCuredByABottomAbove0() {
        EDGES.about("state: not cured by a bottom that is 0 or less with the cure");
        stateOf(Covenanter.BROKEN, 0, -5, 100, 4);
        stateOf(Covenanter.BROKEN, 0, -5, 100, 5);
        stateOf(Covenanter.CURED, 0, -5, 100, 6);
        stateOf(Covenanter.BROKEN, -1000000, -5, 100, 5);
        stateOf(Covenanter.CURED, 0, 0, 0, 1);
        stateOf(Covenanter.BROKEN, -1000000, -1000000, 100, 1000000);
        stateOf(Covenanter.CURED, 1, -999999, 100, 1000000);
    }

    private static void statesInTheirOrder() {
        EDGES.about("state: asleep ahead of kept, of cured, of waived, of broken");
        Covenanter x = Scenes.made(Scenes.tests(1));
        x.amount(1, 0, 10);
        x.amount(0, 0, 12);
        EDGES.due(Covenanter.BROKEN, () -> x.state(0, 0));
        x.waive(0, 0);
        EDGES.due(Covenanter.WAIVED, () -> x.state(0, 0));
        x.cure(0, 0, 1);
        EDGES.due(Covenanter.WAIVED, () -> x.state(0, 0));
        x.amount(0, 0, 11);
        EDGES.due(Covenanter.CURED, () -> x.state(0, 0));
        x.amount(0, 0, 10);
        EDGES.due(Covenanter.KEPT, () -> x.state(0, 0));
        x.wake(0, 2, 1);
        for (int top : new int[] {10, 11, 12}) {
            x.amount(0, 0, top);
            EDGES.due(Covenanter.ASLEEP, () -> x.state(0, 0));
        }
        x.waive(0, 0);
        EDGES.due(Covenanter.ASLEEP, () -> x.state(0, 0));
    }

    /** A test of year(year(year(year(year(A0))))) and the same of A1, with the greatest limit. */
    private static Scenes.Scene greatTest(int top, int bottom) {
        return x -> {
            for (int account = 0; account < 2; account++) {
                x.account(account);
                for (int level = 2; level <= 6; level++) {
                    x.year();
                }
                x.define();
            }
            x.test(0, 1);
            x.limit(0, 0, 10000);
            for (int quarter = 0; quarter < 20; quarter++) {
                x.amount(0, quarter, top);
                x.amount(1, quarter, bottom);
            }
        };
    }

    private static void stateUnderGreatestNumbers() {
        EDGES.about("state: of the greatest numbers, which no wrap-around reaches");
        EDGES.taken(Covenanter.KEPT, greatTest(1000000, 10000), x -> x.state(0, 19));
        EDGES.taken(Covenanter.BROKEN, greatTest(1000000, 9999), x -> x.state(0, 19));
        EDGES.taken(Covenanter.KEPT, greatTest(1000000, 1000000), x -> x.state(0, 19));
        EDGES.taken(Covenanter.KEPT, greatTest(-1000000, 1000000), x -> x.state(0, 19));
        EDGES.taken(Covenanter.BROKEN, greatTest(-1000000, -1000000), x -> x.state(0, 19));
        EDGES.taken(Covenanter.BROKEN, greatTest(1000000, 0), x -> x.state(0, 19));
    }

    // ---- room

    private static void roomOfTestsAndQuarters() {
        EDGES.about("room: of tests that there are, in quarters 0 to 19");
        Scenes.Scene awake = Scenes.tests(6).then(x -> {
            x.number(3);
            x.amend(1, 0);
        });
        EDGES.refused(Edges.INDEX, NOTHING, x -> x.room(0, 0));
        EDGES.refused(Edges.INDEX, Scenes.numberTerms(10), x -> x.room(0, 0));
        EDGES.range(0, 5, Edges.INDEX, awake, (x, test) -> x.room(test, 3));
        EDGES.range(0, 19, Edges.INDEX, awake, (x, quarter) -> x.room(5, quarter));
        EDGES.refusedBeyond(0, 1, Edges.INDEX, Scenes::some, (x, test) -> x.room(test, 0));
        EDGES.refusedBeyond(0, 19, Edges.INDEX, Scenes::full, (x, quarter) -> x.room(0, quarter));
    }

    private static void roomFromTheFirstLimitOn() {
        EDGES.about("room: from the quarter of the first limit on");
        Scenes.Scene bare = x -> {
            Scenes.numberTerms(2).on(x);
            x.test(0, 1);
        };
        EDGES.refused(Edges.STATE, bare, x -> x.room(0, 0));
        EDGES.refused(Edges.STATE, bare, x -> x.room(0, 19));
        EDGES.refused(Edges.STATE, bare.then(x -> x.limit(0, 5, 200)), x -> x.room(0, 4));
        EDGES.taken(2, bare.then(x -> x.limit(0, 5, 200)), x -> x.room(0, 5));
        EDGES.taken(2, bare.then(x -> x.limit(0, 5, 200)), x -> x.room(0, 19));
        EDGES.refused(Edges.STATE, bare.then(x -> x.limit(0, 19, 0)), x -> x.room(0, 18));
        EDGES.taken(0, bare.then(x -> x.limit(0, 19, 0)), x -> x.room(0, 19));
    }

    private static void roomOfABottomAbove0() {
        EDGES.about("room: of a bottom above 0, a cure counted");
        for (int bottom : new int[] {-1000000, -1, 0}) {
            EDGES.refused(Edges.STATE, Scenes.tests(1).then(x -> x.amount(1, 7, bottom)), x -> x.room(0, 7));
        }
        EDGES.taken(1, Scenes.tests(1).then(x -> x.amount(1, 7, 1)), x -> x.room(0, 7));
        Scenes.Scene cured = Scenes.tests(1).then(x -> x.cure(0, 7, 5));
        EDGES.refused(Edges.STATE, cured.then(x -> x.amount(1, 7, -6)), x -> x.room(0, 7));
        EDGES.refused(Edges.STATE, cured.then(x -> x.amount(1, 7, -5)), x -> x.room(0, 7));
        EDGES.taken(1, cured.then(x -> x.amount(1, 7, -4)), x -> x.room(0, 7));
        EDGES.taken(5, cured, x -> x.room(0, 7));
        EDGES.taken(105, cured.then(x -> x.amount(1, 7, 100)), x -> x.room(0, 7));
    }

    private static void roomIsRoundedDown() {
        EDGES.about("room: the limit times the bottom's value, divided by 100, rounded down");
        int[] limits = {0, 1, 99, 100, 101, 199, 200};
        int[] ones = {0, 0, 0, 1, 1, 1, 2};
        int[] threes = {0, 0, 2, 3, 3, 5, 6};
        Covenanter x = Scenes.made(Scenes.tests(1));
        Scenes.setAmounts(x, 1, 1, 3);
        for (int place = 0; place < limits.length; place++) {
            int p = place;
            x.limit(0, 0, limits[p]);
            EDGES.due(ones[p], () -> x.room(0, 0));
            EDGES.due(threes[p], () -> x.room(0, 1));
        }
        x.limit(0, 0, 99);
        x.amount(0, 0, 1);
        EDGES.due(-1, () -> x.room(0, 0));
        x.amount(0, 0, -1);
        EDGES.due(1, () -> x.room(0, 0));
    }

    private static void roomOf0AndBelow() {
        EDGES.about("room: of 0 while the test is kept at its limit, below 0 beyond it");
        Covenanter x = Scenes.made(Scenes.tests(1));
        x.limit(0, 0, 250);
        x.amount(1, 0, 5);
        int[] states = {Covenanter.KEPT, Covenanter.KEPT, Covenanter.BROKEN, Covenanter.BROKEN};
        for (int top = 11; top < 15; top++) {
            int t = top;
            x.amount(0, 0, top);
            EDGES.due(12 - t, () -> x.room(0, 0));
            EDGES.due(states[t - 11], () -> x.state(0, 0));
        }
    }

    private static void roomUnderGreatestNumbers() {
        EDGES.about("room: of the greatest numbers, which no wrap-around reaches");
        EDGES.taken(102400000000L - 1024000000L, greatTest(1000000, 1000000), x -> x.room(0, 19));
        EDGES.taken(102400000000L + 1024000000L, greatTest(-1000000, 1000000), x -> x.room(0, 19));
        EDGES.taken(102500000000L, greatTest(0, 1000000).then(x -> x.cure(0, 19, 1000000)), x -> x.room(0, 19));
        EDGES.taken(102400L - 1024000000L, greatTest(1000000, 1), x -> x.room(0, 19));
        EDGES.refused(Edges.STATE, greatTest(1000000, -1), x -> x.room(0, 19));
    }

    // ---- broken

    private static void brokenFromNoneTo120() {
        EDGES.about("broken: from none to all pairs of 6 tests and 20 quarters");
        EDGES.taken(0, NOTHING, x -> x.broken());
        EDGES.taken(0, Scenes.numberTerms(10), x -> x.broken());
        EDGES.taken(0, Scenes.accountTerms(2).then(x -> x.test(0, 1)), x -> x.broken());
        for (int count = 0; count <= 6; count++) {
            EDGES.taken(20 * count, Scenes.tests(count), x -> x.broken());
        }
        EDGES.taken(119, Scenes.tests(6).then(x -> x.waive(0, 0)), x -> x.broken());
        EDGES.taken(119, Scenes.tests(6).then(x -> x.waive(5, 19)), x -> x.broken());
        for (int quarter = 0; quarter < 20; quarter++) {
            int q = quarter;
            EDGES.taken(20 - q, Scenes.accountTerms(1).then(x -> x.test(0, 0)).then(x -> x.limit(0, q, 0)),
                x -> x.broken());
        }
    }

    private static void brokenCountsNoOtherStates() {
        EDGES.about("broken: neither asleep nor kept, cured or waived");
        Covenanter x = Scenes.made(Scenes.tests(1));
        x.amount(1, 3, 1);
        EDGES.due(19, () -> x.broken());
        x.cure(0, 4, 1);
        EDGES.due(18, () -> x.broken());
        x.waive(0, 5);
        EDGES.due(17, () -> x.broken());
        x.waive(0, 3);
        x.waive(0, 4);
        EDGES.due(17, () -> x.broken());
        x.waive(0, 5);
        EDGES.due(18, () -> x.broken());
        x.amount(2, 6, 5);
        x.wake(0, 2, 5);
        EDGES.due(1, () -> x.broken());
        x.wake(0, 2, 6);
        EDGES.due(0, () -> x.broken());
    }
}
