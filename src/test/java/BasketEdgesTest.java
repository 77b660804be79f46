/** The edges of promises 25 to 28: baskets, their sizes, what is used of them and filled again. */
public final class BasketEdgesTest {
    private static final Edges EDGES = new Edges("BasketEdgesTest");
    private static final Scenes.Scene NOTHING = Scenes.NOTHING;

    public static void main(String[] args) {
        basketOfFixedAmounts();
        basketOfShares();
        basketOfTermsThatThereAre();
        basketsFrom0To5();
        basketThrowsInOrder();
        sizeOfBasketsAndQuarters();
        sizeOfAValueAbove0();
        sizeIsRoundedDown();
        sizeWithoutAFixedAmountOrShare();
        sizeByQuarters();
        greatestSize();
        useOfBasketsAndQuarters();
        useFrom1ToAMillion();
        useThrowsInOrder();
        useUpToTheSize();
        useOfNoSize();
        useByTheSizeOfItsQuarter();
        useOfASizeThatShrank();
        useOfTheGreatestSize();
        useIsThatOfItsBasketAlone();
        refillOfBasketsThatThereAre();
        refillFrom1ToAMillion();
        refillThrowsInOrder();
        refillUpToWhatIsUsed();
        refillOfWhatIsUsedBeyondTheSize();
        refillLetsUseAgain();
        EDGES.end();
    }

    /** A basket of a fixed amount and a share of T0 = A0, and an amount of A0 in the quarter 0. */
    private static Scenes.Scene basketOf(int fixed, int percents, int amount) {
        return x -> {
            Scenes.accountTerms(1).on(x);
            x.basket(fixed, 0, percents);
            x.amount(0, 0, amount);
        };
    }

    // ---- basket

    private static void basketOfFixedAmounts() {
        EDGES.about("basket: a fixed amount from 0 to 1000000");
        EDGES.range(0, 1000000, Edges.ARGUMENT, Scenes::some, (x, fixed) -> x.basket(fixed, 0, 50));
        EDGES.refusedAlways(Edges.ARGUMENT, x -> x.basket(-1, 0, 50));
        EDGES.refusedAlways(Edges.ARGUMENT, x -> x.basket(1000001, 0, 50));
        EDGES.taken(0, basketOf(0, 0, 0), x -> x.size(0, 0));
        EDGES.taken(1000000, basketOf(1000000, 0, 0), x -> x.size(0, 0));
    }

    private static void basketOfShares() {
        EDGES.about("basket: a share from 0 to 100");
        EDGES.range(0, 100, Edges.ARGUMENT, Scenes::some, (x, percents) -> x.basket(7, 0, percents));
        EDGES.refusedAlways(Edges.ARGUMENT, x -> x.basket(7, 0, -1));
        EDGES.refusedAlways(Edges.ARGUMENT, x -> x.basket(7, 0, 101));
        EDGES.taken(0, basketOf(0, 0, 1000000), x -> x.size(0, 0));
        EDGES.taken(1000000, basketOf(0, 100, 1000000), x -> x.size(0, 0));
    }

    private static void basketOfTermsThatThereAre() {
        EDGES.about("basket: of terms that there are");
        EDGES.refused(Edges.INDEX, NOTHING, x -> x.basket(0, 0, 0));
        EDGES.refused(Edges.INDEX, Scenes.stack(1), x -> x.basket(0, 0, 0));
        EDGES.range(0, 0, Edges.INDEX, Scenes.numberTerms(1), (x, term) -> x.basket(0, term, 0));
        EDGES.range(0, 2, Edges.INDEX, Scenes::some, (x, term) -> x.basket(0, term, 100));
        EDGES.range(0, 9, Edges.INDEX, Scenes.numberTerms(10), (x, term) -> x.basket(0, term, 100));
        EDGES.taken(9, Scenes.numberTerms(10).then(x -> x.basket(0, 9, 100)), x -> x.size(0, 0));
    }

    private static void basketsFrom0To5() {
        EDGES.about("basket: 6 at most");
        for (int count = 0; count < 6; count++) {
            EDGES.taken(count, Scenes.baskets(count), x -> x.basket(5, 0, 5));
        }
        EDGES.refused(Edges.STATE, Scenes.baskets(6), x -> x.basket(5, 0, 5));
        EDGES.refused(Edges.STATE, Scenes::full, x -> x.basket(5, 9, 5));
    }

    private static void basketThrowsInOrder() {
        EDGES.about("basket: the ranges ahead of no such term, and that ahead of 6 baskets");
        EDGES.refusedAlways(Edges.ARGUMENT, x -> x.basket(-1, 10, 0));
        EDGES.refusedAlways(Edges.ARGUMENT, x -> x.basket(0, -1, 101));
        EDGES.refusedAlways(Edges.ARGUMENT, x -> x.basket(1000001, -1, 0));
        EDGES.refusedAlways(Edges.INDEX, x -> x.basket(0, 10, 0));
        EDGES.refusedAlways(Edges.INDEX, x -> x.basket(1000000, -1, 100));
        EDGES.refusedAlways(Edges.INDEX, x -> x.basket(0, Integer.MAX_VALUE, 0));
        EDGES.refusedAlways(Edges.INDEX, x -> x.basket(0, Integer.MIN_VALUE, 0));
    }

    // ---- size

    private static void sizeOfBasketsAndQuarters() {
        EDGES.about("size: of baskets that there are, in quarters 0 to 19");
        EDGES.refused(Edges.INDEX, NOTHING, x -> x.size(0, 0));
        EDGES.refused(Edges.INDEX, Scenes.numberTerms(10), x -> x.size(0, 0));
        EDGES.range(0, 1, Edges.INDEX, Scenes::some, (x, basket) -> x.size(basket, 3));
        EDGES.range(0, 5, Edges.INDEX, Scenes::full, (x, basket) -> x.size(basket, 3));
        EDGES.range(0, 19, Edges.INDEX, Scenes::some, (x, quarter) -> x.size(0, quarter));
        EDGES.range(0, 19, Edges.INDEX, Scenes::full, (x, quarter) -> x.size(5, quarter));
    }

    private static void sizeOfAValueAbove0() {
        EDGES.about("size: with a share of a value above 0 alone");
        EDGES.taken(8, basketOf(7, 100, 1), x -> x.size(0, 0));
        EDGES.taken(7, basketOf(7, 100, 0), x -> x.size(0, 0));
        EDGES.taken(7, basketOf(7, 100, -1), x -> x.size(0, 0));
        EDGES.taken(7, basketOf(7, 50, -1000000), x -> x.size(0, 0));
        EDGES.taken(0, basketOf(0, 1, -1), x -> x.size(0, 0));
    }

    private static void sizeIsRoundedDown() {
        EDGES.about("size: the share divided by 100, rounded down");
        EDGES.taken(5, basketOf(5, 1, 99), x -> x.size(0, 0));
        EDGES.taken(6, basketOf(5, 1, 100), x -> x.size(0, 0));
        EDGES.taken(6, basketOf(5, 1, 199), x -> x.size(0, 0));
        EDGES.taken(7, basketOf(5, 1, 200), x -> x.size(0, 0));
        EDGES.taken(5, basketOf(5, 99, 1), x -> x.size(0, 0));
        EDGES.taken(6, basketOf(5, 99, 2), x -> x.size(0, 0));
    }

    private static void sizeWithoutAFixedAmountOrShare() {
        EDGES.about("size: of a fixed amount alone, of a share alone, of nothing");
        EDGES.taken(40, basketOf(40, 0, 1000000), x -> x.size(0, 0));
        EDGES.taken(30, basketOf(0, 30, 100), x -> x.size(0, 0));
        EDGES.taken(0, basketOf(0, 0, 1000000), x -> x.size(0, 0));
    }

    private static void sizeByQuarters() {
        EDGES.about("size: by the value of its term in the quarter");
        Covenanter x = Scenes.made(Scenes.baskets(1));
        for (int quarter = 0; quarter < 20; quarter++) {
            x.amount(0, quarter, 10 * quarter);
        }
        for (int quarter = 0; quarter < 20; quarter++) {
            int q = quarter;
            EDGES.due(100 + 5 * q, () -> x.size(0, q));
        }
        x.number(1000);
        x.amend(0, 19);
        EDGES.due(190, () -> x.size(0, 18));
        EDGES.due(600, () -> x.size(0, 19));
    }

    /** A basket of 1000000 and all of year(year(year(year(year(1000000))))). */
    private static void greatest(Covenanter x) {
        x.number(1000000);
        for (int level = 2; level <= 6; level++) {
            x.year();
        }
        x.define();
        x.basket(1000000, 0, 100);
    }

    private static void greatestSize() {
        EDGES.about("size: the greatest one");
        EDGES.taken(1025000000, BasketEdgesTest::greatest, x -> x.size(0, 19));
        EDGES.taken(2000000, BasketEdgesTest::greatest, x -> x.size(0, 0));
    }

    // ---- use

    private static void useOfBasketsAndQuarters() {
        EDGES.about("use: of baskets that there are, in quarters 0 to 19");
        EDGES.refused(Edges.INDEX, NOTHING, x -> x.use(0, 0, 1));
        EDGES.refused(Edges.INDEX, Scenes.numberTerms(10), x -> x.use(0, 0, 1));
        EDGES.range(0, 1, Edges.INDEX, Scenes::some, (x, basket) -> x.use(basket, 0, 1));
        EDGES.range(0, 5, Edges.INDEX, Scenes.baskets(6), (x, basket) -> x.use(basket, 0, 1));
        EDGES.range(0, 19, Edges.INDEX, Scenes.baskets(6), (x, quarter) -> x.use(5, quarter, 1));
        EDGES.refusedBeyond(0, 5, Edges.INDEX, Scenes::full, (x, basket) -> x.use(basket, 0, 1));
        EDGES.refusedBeyond(0, 19, Edges.INDEX, Scenes::full, (x, quarter) -> x.use(0, quarter, 1));
    }

    private static void useFrom1ToAMillion() {
        EDGES.about("use: 1 to 1000000");
        EDGES.range(1, 1000000, Edges.ARGUMENT, basketOf(1000000, 0, 0), (x, amount) -> x.use(0, 0, amount));
        EDGES.refusedBeyond(1, 1000000, Edges.ARGUMENT, Scenes::some, (x, amount) -> x.use(0, 0, amount));
        EDGES.refusedBeyond(1, 1000000, Edges.ARGUMENT, Scenes::full, (x, amount) -> x.use(5, 0, amount));
        EDGES.refused(Edges.ARGUMENT, BasketEdgesTest::greatest, x -> x.use(0, 19, 1000001));
        EDGES.refused(Edges.ARGUMENT, Scenes::some, x -> x.use(0, 0, -30));
    }

    private static void useThrowsInOrder() {
        EDGES.about("use: no such basket or quarter, the range, then the size");
        EDGES.refusedAlways(Edges.INDEX, x -> x.use(6, 0, 0));
        EDGES.refusedAlways(Edges.INDEX, x -> x.use(-1, 0, 1000001));
        EDGES.refusedAlways(Edges.INDEX, x -> x.use(0, 20, 0));
        EDGES.refusedAlways(Edges.INDEX, x -> x.use(0, -1, 1000001));
        EDGES.refused(Edges.ARGUMENT, basketOf(0, 0, 0), x -> x.use(0, 0, 0));
        EDGES.refused(Edges.ARGUMENT, basketOf(0, 0, 0), x -> x.use(0, 0, 1000001));
        EDGES.refused(Edges.STATE, basketOf(0, 0, 0), x -> x.use(0, 0, 1));
        EDGES.refused(Edges.STATE, basketOf(0, 0, 0), x -> x.use(0, 0, 1000000));
    }

    private static void useUpToTheSize() {
        EDGES.about("use: up to the size, and no more");
        Scenes.Scene basket = basketOf(50, 50, 21);
        EDGES.taken(60, basket, x -> x.use(0, 0, 60));
        EDGES.refused(Edges.STATE, basket, x -> x.use(0, 0, 61));
        Scenes.Scene used = basket.then(x -> x.use(0, 0, 20));
        EDGES.taken(21, used, x -> x.use(0, 0, 1));
        EDGES.taken(60, used, x -> x.use(0, 0, 40));
        EDGES.refused(Edges.STATE, used, x -> x.use(0, 0, 41));
        EDGES.refused(Edges.STATE, used, x -> x.use(0, 0, 1000000));
        EDGES.refused(Edges.STATE, used.then(x -> x.use(0, 0, 40)), x -> x.use(0, 0, 1));
    }

    private static void useOfNoSize() {
        EDGES.about("use: nothing of a basket without a size");
        EDGES.refused(Edges.STATE, basketOf(0, 100, 0), x -> x.use(0, 0, 1));
        EDGES.refused(Edges.STATE, basketOf(0, 100, -5), x -> x.use(0, 0, 1));
        EDGES.refused(Edges.STATE, basketOf(0, 50, 1), x -> x.use(0, 0, 1));
        EDGES.taken(1, basketOf(0, 50, 2), x -> x.use(0, 0, 1));
    }

    private static void useByTheSizeOfItsQuarter() {
        EDGES.about("use: up to the size in that quarter, counted over all quarters");
        Scenes.Scene basket = basketOf(10, 100, 5);
        EDGES.refused(Edges.STATE, basket, x -> x.use(0, 1, 11));
        EDGES.taken(10, basket, x -> x.use(0, 1, 10));
        EDGES.taken(15, basket.then(x -> x.use(0, 1, 10)), x -> x.use(0, 0, 5));
        EDGES.refused(Edges.STATE, basket.then(x -> x.use(0, 19, 10)), x -> x.use(0, 0, 6));
        EDGES.refused(Edges.STATE, basket.then(x -> x.use(0, 0, 10)), x -> x.use(0, 19, 1));
        EDGES.taken(15, basket.then(x -> x.amount(0, 19, 5)).then(x -> x.use(0, 0, 14)), x -> x.use(0, 19, 1));
    }

    private static void useOfASizeThatShrank() {
        EDGES.about("use: nothing while more is used than the size, and again when it has grown");
        Scenes.Scene shrunk = basketOf(10, 100, 5).then(x -> x.use(0, 0, 15)).then(x -> x.amount(0, 0, 4));
        EDGES.refused(Edges.STATE, shrunk, x -> x.use(0, 0, 1));
        EDGES.refused(Edges.STATE, shrunk.then(x -> x.amount(0, 0, 5)), x -> x.use(0, 0, 1));
        EDGES.taken(16, shrunk.then(x -> x.amount(0, 0, 6)), x -> x.use(0, 0, 1));
        EDGES.refused(Edges.STATE, shrunk.then(x -> x.refill(0, 1)), x -> x.use(0, 0, 1));
        EDGES.taken(14, shrunk.then(x -> x.refill(0, 2)), x -> x.use(0, 0, 1));
    }

    private static void useOfTheGreatestSize() {
        EDGES.about("use: of the greatest size, a million at a time");
        Covenanter x = Scenes.made(BasketEdgesTest::greatest);
        for (int million = 1; million <= 500; million++) {
            int m = million;
            EDGES.due(1000000L * m, () -> x.use(0, 19, 1000000));
        }
        EDGES.due(499999999, () -> x.refill(0, 1));
        EDGES.taken(1999999, y -> {
            greatest(y);
            y.use(0, 19, 1000000);
        }, y -> y.use(0, 0, 999999));
    }

    private static void useIsThatOfItsBasketAlone() {
        EDGES.about("use: of its basket alone, where 0 is used at first");
        Covenanter x = Scenes.made(Scenes.baskets(6));
        for (int basket = 0; basket < 6; basket++) {
            int b = basket;
            EDGES.due(1 + b, () -> x.use(b, 19 - b, 1 + b));
        }
        for (int basket = 0; basket < 6; basket++) {
            int b = basket;
            EDGES.due(100, () -> x.use(b, 0, 99 - b));
            EDGES.due(100, () -> x.size(b, 0));
        }
    }

    // ---- refill

    private static void refillOfBasketsThatThereAre() {
        EDGES.about("refill: of baskets that there are");
        Scenes.Scene used = Scenes.baskets(6).then(x -> {
            for (int basket = 0; basket < 6; basket++) {
                x.use(basket, 0, 2);
            }
        });
        EDGES.refused(Edges.INDEX, NOTHING, x -> x.refill(0, 1));
        EDGES.refused(Edges.INDEX, Scenes.numberTerms(10), x -> x.refill(0, 1));
        EDGES.range(0, 5, Edges.INDEX, used, (x, basket) -> x.refill(basket, 1));
        EDGES.range(0, 0, Edges.INDEX, Scenes.baskets(1).then(x -> x.use(0, 0, 3)), (x, basket) -> x.refill(basket, 3));
        EDGES.range(0, 5, Edges.INDEX, Scenes::full, (x, basket) -> x.refill(basket, 18));
    }

    private static void refillFrom1ToAMillion() {
        EDGES.about("refill: 1 to 1000000");
        Scenes.Scene used = basketOf(1000000, 0, 0).then(x -> x.use(0, 0, 1000000));
        EDGES.range(1, 1000000, Edges.ARGUMENT, used, (x, amount) -> x.refill(0, amount));
        EDGES.refusedBeyond(1, 1000000, Edges.ARGUMENT, Scenes::some, (x, amount) -> x.refill(0, amount));
        EDGES.refusedBeyond(1, 1000000, Edges.ARGUMENT, Scenes::full, (x, amount) -> x.refill(5, amount));
        Scenes.Scene twice = x -> {
            greatest(x);
            x.use(0, 19, 1000000);
            x.use(0, 19, 1000000);
        };
        EDGES.refused(Edges.ARGUMENT, twice, x -> x.refill(0, 1000001));
        EDGES.taken(1000000, twice, x -> x.refill(0, 1000000));
    }

    private static void refillThrowsInOrder() {
        EDGES.about("refill: no such basket, the range, then what is used");
        EDGES.refusedAlways(Edges.INDEX, x -> x.refill(6, 0));
        EDGES.refusedAlways(Edges.INDEX, x -> x.refill(-1, 1000001));
        EDGES.refused(Edges.ARGUMENT, Scenes.baskets(1), x -> x.refill(0, 0));
        EDGES.refused(Edges.ARGUMENT, Scenes.baskets(1), x -> x.refill(0, 1000001));
        EDGES.refused(Edges.STATE, Scenes.baskets(1), x -> x.refill(0, 1));
        EDGES.refused(Edges.STATE, Scenes.baskets(1), x -> x.refill(0, 1000000));
    }

    private static void refillUpToWhatIsUsed() {
        EDGES.about("refill: up to what is used, and no more");
        Scenes.Scene used = Scenes.baskets(2).then(x -> x.use(0, 0, 30));
        EDGES.taken(29, used, x -> x.refill(0, 1));
        EDGES.taken(1, used, x -> x.refill(0, 29));
        EDGES.taken(0, used, x -> x.refill(0, 30));
        EDGES.refused(Edges.STATE, used, x -> x.refill(0, 31));
        EDGES.refused(Edges.STATE, used, x -> x.refill(0, 1000000));
        EDGES.refused(Edges.STATE, used, x -> x.refill(1, 1));
        EDGES.refused(Edges.STATE, used.then(x -> x.refill(0, 30)), x -> x.refill(0, 1));
    }

    private static void refillOfWhatIsUsedBeyondTheSize() {
        EDGES.about("refill: of all that is used, when the size has become less");
        Scenes.Scene shrunk = basketOf(0, 100, 50).then(x -> x.use(0, 0, 50)).then(x -> x.amount(0, 0, -1));
        EDGES.taken(0, shrunk, x -> x.refill(0, 50));
        EDGES.refused(Edges.STATE, shrunk, x -> x.refill(0, 51));
    }

    private static void refillLetsUseAgain() {
        EDGES.about("refill: what is filled again can be used again, and no more");
        Scenes.Scene filled = Scenes.baskets(1).then(x -> x.use(0, 0, 100)).then(x -> x.refill(0, 40));
        EDGES.taken(100, filled, x -> x.use(0, 0, 40));
        EDGES.refused(Edges.STATE, filled, x -> x.use(0, 0, 41));
        EDGES.taken(100, filled.then(x -> x.refill(0, 60)), x -> x.use(0, 19, 100));
    }
}
