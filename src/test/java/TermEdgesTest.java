/** The edges of promises 10 to 16: define, amend, terms, level, value and texts. */
public final class TermEdgesTest {
    private static final Edges EDGES = new Edges("TermEdgesTest");
    private static final Scenes.Scene NOTHING = Scenes.NOTHING;

    public static void main(String[] args) {
        defineOfSomething();
        defineOf10Terms();
        defineOfTheUppermostAlone();
        amendOfTermsThatThereAre();
        amendFromQuarters0To19();
        amendBySomething();
        amendThrowsInOrder();
        amendByLevels();
        amendByNames();
        amendByNamesInParts();
        amendCountsDefinitions();
        amendHoldsUpToTheNextOne();
        amendFromTheSameQuarter();
        amendFromTheQuarter0();
        amendChangesWhatNamesTheTerm();
        amendTakesTheUppermostAlone();
        termsFrom0To10();
        levelOfTermsThatThereAre();
        levelIsThatOfTheFirstDefinition();
        valueOfTermsThatThereAre();
        valueInQuarters0To19();
        greatestAndLeastValues();
        textLengthOfTermsAndQuarters();
        textCharOfTermsAndQuarters();
        textCharOfPlaces();
        textsOfAllKinds();
        longestText();
        textIsThatOfItsQuarter();
        EDGES.end();
    }

    /** Terms T0, T2 and T3 of the level 1, T1 of the level 5, T4 of the level 6. */
    private static void ladder(Covenanter x) {
        for (int level : new int[] {1, 5, 1, 1, 6}) {
            Scenes.pushLevel(x, level);
            x.define();
        }
    }

    /** The ladder, and a sum of terms on the stack. */
    private static Scenes.Scene sumOf(int... terms) {
        return x -> {
            ladder(x);
            x.term(terms[0]);
            for (int place = 1; place < terms.length; place++) {
                x.term(terms[place]);
                x.join(Covenanter.SUM);
            }
        };
    }

    // ---- define

    private static void defineOfSomething() {
        EDGES.about("define: by a formula that there is");
        EDGES.refused(Edges.STATE, NOTHING, x -> x.define());
        EDGES.refused(Edges.STATE, Scenes.stack(8).then(x -> x.clear()), x -> x.define());
        EDGES.refused(Edges.STATE, Scenes.numberTerms(10), x -> x.define());
        EDGES.refused(Edges.STATE, Scenes.numberTerms(1), x -> x.define());
        EDGES.taken(0, Scenes.stack(1), x -> x.define());
    }

    private static void defineOf10Terms() {
        EDGES.about("define: 10 terms at most");
        for (int count = 0; count < 10; count++) {
            EDGES.taken(count, Scenes.numberTerms(count).then(Scenes.stack(1)), x -> x.define());
        }
        EDGES.refused(Edges.STATE, Scenes.numberTerms(10).then(Scenes.stack(1)), x -> x.define());
        EDGES.refused(Edges.STATE, Scenes::full, x -> x.define());
    }

    private static void defineOfTheUppermostAlone() {
        EDGES.about("define: takes the uppermost formula, of any level");
        Covenanter x = Scenes.made(Scenes.levels(6, 1, 6, 1));
        int[] levels = {1, 6, 1, 6};
        for (int term = 0; term < 4; term++) {
            int t = term;
            EDGES.due(t, () -> x.define());
            EDGES.due(levels[t], () -> x.level(t));
        }
        EDGES.due(0, () -> x.clear());
    }

    // ---- amend

    private static void amendOfTermsThatThereAre() {
        EDGES.about("amend: terms that there are");
        EDGES.refused(Edges.INDEX, NOTHING, x -> x.amend(0, 0));
        EDGES.refused(Edges.INDEX, Scenes.stack(1), x -> x.amend(0, 0));
        EDGES.refused(Edges.INDEX, Scenes.numberTerms(1).then(Scenes.stack(1)), x -> x.amend(1, 0));
        EDGES.range(0, 0, Edges.INDEX, Scenes.numberTerms(1).then(Scenes.stack(1)), (x, term) -> x.amend(term, 3));
        EDGES.range(0, 2, Edges.INDEX, Scenes::some, (x, term) -> x.amend(term, 3));
        EDGES.range(0, 9, Edges.INDEX, Scenes::full, (x, term) -> x.amend(term, 3));
    }

    private static void amendFromQuarters0To19() {
        EDGES.about("amend: quarters 0 to 19");
        EDGES.range(0, 19, Edges.INDEX, Scenes::some, (x, quarter) -> x.amend(0, quarter));
        EDGES.range(0, 19, Edges.INDEX, Scenes::full, (x, quarter) -> x.amend(9, quarter));
    }

    private static void amendBySomething() {
        EDGES.about("amend: by a formula that there is");
        EDGES.refused(Edges.STATE, Scenes.numberTerms(1), x -> x.amend(0, 0));
        EDGES.refused(Edges.STATE, Scenes.numberTerms(1), x -> x.amend(0, 19));
        EDGES.refused(Edges.STATE, Scenes.numberTerms(10).then(Scenes.stack(8)).then(x -> x.clear()),
            x -> x.amend(9, 5));
        EDGES.taken(2, Scenes.numberTerms(1).then(Scenes.stack(1)), x -> x.amend(0, 19));
    }

    private static void amendThrowsInOrder() {
        EDGES.about("amend: no such term or quarter ahead of what the formula is");
        EDGES.refused(Edges.INDEX, Scenes.numberTerms(1), x -> x.amend(1, 0));
        EDGES.refused(Edges.INDEX, Scenes.numberTerms(1), x -> x.amend(0, 20));
        EDGES.refused(Edges.INDEX, Scenes.numberTerms(1).then(Scenes.levels(2)), x -> x.amend(0, -1));
        EDGES.refused(Edges.INDEX, Scenes.numberTerms(1).then(x -> x.term(0)), x -> x.amend(-1, 0));
    }

    private static void amendByLevels() {
        EDGES.about("amend: by the level of the term at most");
        for (int level = 1; level <= 6; level++) {
            Scenes.Scene term = Scenes.levels(level).then(x -> x.define());
            EDGES.taken(2, term.then(Scenes.levels(level)), x -> x.amend(0, 1));
            EDGES.taken(2, term.then(Scenes.levels(1)), x -> x.amend(0, 1));
            if (level < 6) {
                EDGES.refused(Edges.STATE, term.then(Scenes.levels(level + 1)), x -> x.amend(0, 1));
                EDGES.refused(Edges.STATE, term.then(Scenes.levels(6)), x -> x.amend(0, 0));
            }
        }
        Scenes.Scene lowered = Scenes.levels(3).then(x -> {
            x.define();
            x.number(4);
            x.amend(0, 0);
        });
        EDGES.taken(1, lowered.then(Scenes.levels(3)), x -> x.amend(0, 0));
        EDGES.refused(Edges.STATE, lowered.then(Scenes.levels(4)), x -> x.amend(0, 0));
    }

    private static void amendByNames() {
        EDGES.about("amend: by terms with lower numbers alone");
        EDGES.taken(2, sumOf(0), x -> x.amend(1, 4));
        EDGES.refused(Edges.STATE, sumOf(1), x -> x.amend(1, 4));
        EDGES.refused(Edges.STATE, sumOf(2), x -> x.amend(1, 4));
        EDGES.refused(Edges.STATE, sumOf(3), x -> x.amend(1, 4));
        EDGES.refused(Edges.STATE, sumOf(0), x -> x.amend(0, 4));
        for (int term = 0; term < 4; term++) {
            EDGES.taken(1, sumOf(term), x -> x.amend(4, 0));
            EDGES.taken(2, sumOf(term), x -> x.amend(4, 19));
        }
    }

    private static void amendByNamesInParts() {
        EDGES.about("amend: by names within joins, shares and years");
        EDGES.taken(2, sumOf(0, 0), x -> x.amend(1, 4));
        EDGES.refused(Edges.STATE, sumOf(0, 2), x -> x.amend(1, 4));
        EDGES.refused(Edges.STATE, sumOf(2, 0), x -> x.amend(1, 4));
        EDGES.refused(Edges.STATE, sumOf(0, 3, 0), x -> x.amend(1, 4));
        EDGES.taken(2, sumOf(3, 2, 0), x -> x.amend(4, 4));
        EDGES.taken(2, sumOf(0).then(x -> x.share(9)).then(x -> x.year()), x -> x.amend(1, 4));
        EDGES.refused(Edges.STATE, sumOf(2).then(x -> x.share(9)), x -> x.amend(1, 4));
        EDGES.refused(Edges.STATE, sumOf(2).then(x -> x.year()), x -> x.amend(1, 4));
        EDGES.refused(Edges.STATE, sumOf(2).then(Scenes.stack(1)).then(x -> x.join(3)), x -> x.amend(1, 4));
        EDGES.taken(2, sumOf(2).then(Scenes.stack(1)), x -> x.amend(1, 4));
    }

    private static void amendCountsDefinitions() {
        EDGES.about("amend: how many definitions there are then, up to 20");
        Covenanter x = Scenes.made(Scenes.numberTerms(2));
        for (int quarter = 19; quarter >= 1; quarter--) {
            int q = quarter;
            x.number(100 + q);
            EDGES.due(21 - q, () -> x.amend(1, q));
            x.number(200 + q);
            EDGES.due(21 - q, () -> x.amend(1, q));
        }
        x.number(200);
        EDGES.due(20, () -> x.amend(1, 0));
        for (int quarter = 0; quarter < 20; quarter++) {
            int q = quarter;
            EDGES.due(200 + q, () -> x.value(1, q));
            EDGES.due(0, () -> x.value(0, q));
            EDGES.dueText(x, 1, q, String.valueOf(200 + q));
        }
        x.number(7);
        EDGES.due(2, () -> x.amend(0, 10));
    }

    private static void amendHoldsUpToTheNextOne() {
        EDGES.about("amend: holds from its quarter on up to the next one");
        Covenanter x = Scenes.made(Scenes.numberTerms(1));
        x.number(13);
        x.amend(0, 13);
        x.number(6);
        x.amend(0, 6);
        x.number(19);
        x.amend(0, 19);
        x.number(7);
        x.amend(0, 7);
        int[] wants = {0, 0, 0, 0, 0, 0, 6, 7, 7, 7, 7, 7, 7, 13, 13, 13, 13, 13, 13, 19};
        for (int quarter = 0; quarter < 20; quarter++) {
            int q = quarter;
            EDGES.due(wants[q], () -> x.value(0, q));
            EDGES.dueText(x, 0, q, String.valueOf(wants[q]));
        }
    }

    private static void amendFromTheSameQuarter() {
        EDGES.about("amend: takes the place of the one from the same quarter");
        Covenanter x = Scenes.made(Scenes.numberTerms(1));
        x.number(5);
        EDGES.due(2, () -> x.amend(0, 19));
        x.account(1);
        EDGES.due(2, () -> x.amend(0, 19));
        EDGES.due(0, () -> x.value(0, 19));
        EDGES.dueText(x, 0, 19, "A1");
        EDGES.dueText(x, 0, 18, "0");
        x.amount(1, 19, 9);
        EDGES.due(9, () -> x.value(0, 19));
    }

    private static void amendFromTheQuarter0() {
        EDGES.about("amend: from the quarter 0 on, in the place of the first definition");
        Covenanter x = Scenes.made(Scenes.levels(2).then(y -> y.define()));
        x.number(5);
        EDGES.due(1, () -> x.amend(0, 0));
        EDGES.dueText(x, 0, 0, "5");
        EDGES.dueText(x, 0, 19, "5");
        x.number(6);
        EDGES.due(2, () -> x.amend(0, 1));
        x.number(7);
        EDGES.due(2, () -> x.amend(0, 0));
        EDGES.due(7, () -> x.value(0, 0));
        EDGES.due(6, () -> x.value(0, 1));
    }

    private static void amendChangesWhatNamesTheTerm() {
        EDGES.about("a term's value is that of its definition that holds in the quarter, for a year as well");
        Covenanter x = Scenes.made(Scenes.numberTerms(1).then(y -> {
            y.term(0);
            y.define();
            y.term(0);
            y.year();
            y.define();
            y.number(1);
            y.amend(0, 17);
        }));
        EDGES.due(0, () -> x.value(1, 16));
        EDGES.due(1, () -> x.value(1, 17));
        EDGES.due(0, () -> x.value(2, 16));
        EDGES.due(1, () -> x.value(2, 17));
        EDGES.due(3, () -> x.value(2, 19));
        x.number(50);
        x.amend(0, 0);
        EDGES.due(50, () -> x.value(2, 0));
        EDGES.due(200, () -> x.value(2, 3));
        EDGES.due(151, () -> x.value(2, 17));
        EDGES.due(53, () -> x.value(2, 19));
    }

    private static void amendTakesTheUppermostAlone() {
        EDGES.about("amend: takes the uppermost formula of a full stack");
        Covenanter x = Scenes.made(Scenes.numberTerms(1).then(Scenes.stack(8)));
        EDGES.due(2, () -> x.amend(0, 1));
        EDGES.due(8, () -> x.value(0, 1));
        EDGES.due(3, () -> x.amend(0, 2));
        EDGES.due(7, () -> x.value(0, 2));
        EDGES.due(6, () -> x.clear());
    }

    // ---- terms and level

    private static void termsFrom0To10() {
        EDGES.about("terms: from none to 10");
        for (int count = 0; count <= 10; count++) {
            EDGES.taken(count, Scenes.numberTerms(count), x -> x.terms());
            EDGES.taken(count, Scenes.numberTerms(count).then(Scenes.stack(8)), x -> x.terms());
        }
    }

    private static void levelOfTermsThatThereAre() {
        EDGES.about("level: of terms that there are");
        EDGES.refused(Edges.INDEX, NOTHING, x -> x.level(0));
        EDGES.refused(Edges.INDEX, Scenes.stack(1), x -> x.level(0));
        EDGES.range(0, 0, Edges.INDEX, Scenes.numberTerms(1), (x, term) -> x.level(term));
        EDGES.range(0, 2, Edges.INDEX, Scenes::some, (x, term) -> x.level(term));
        EDGES.range(0, 9, Edges.INDEX, Scenes::full, (x, term) -> x.level(term));
        EDGES.taken(6, Scenes::full, x -> x.level(9));
    }

    private static void levelIsThatOfTheFirstDefinition() {
        EDGES.about("level: that of the first definition, from 1 to 6");
        for (int level = 1; level <= 6; level++) {
            Scenes.Scene term = Scenes.levels(level).then(x -> x.define()).then(Scenes.stack(2));
            EDGES.taken(level, term, x -> x.level(0));
            EDGES.taken(level, term.then(x -> x.amend(0, 19)), x -> x.level(0));
            EDGES.taken(level, term.then(x -> x.amend(0, 0)), x -> x.level(0));
        }
        EDGES.taken(2, Scenes.numberTerms(1).then(x -> x.term(0)).then(x -> x.define()), x -> x.level(1));
    }

    // ---- value

    private static void valueOfTermsThatThereAre() {
        EDGES.about("value: of terms that there are");
        EDGES.refused(Edges.INDEX, NOTHING, x -> x.value(0, 0));
        EDGES.refused(Edges.INDEX, Scenes.stack(8), x -> x.value(0, 19));
        EDGES.range(0, 0, Edges.INDEX, Scenes.numberTerms(1), (x, term) -> x.value(term, 0));
        EDGES.range(0, 9, Edges.INDEX, Scenes::full, (x, term) -> x.value(term, 19));
    }

    private static void valueInQuarters0To19() {
        EDGES.about("value: in quarters 0 to 19");
        EDGES.range(0, 19, Edges.INDEX, Scenes::some, (x, quarter) -> x.value(0, quarter));
        EDGES.range(0, 19, Edges.INDEX, Scenes::full, (x, quarter) -> x.value(9, quarter));
        EDGES.refused(Edges.INDEX, Scenes::some, x -> x.value(3, 20));
    }

    private static void greatestAndLeastValues() {
        EDGES.about("value: the greatest and the least ones, by years of years and by terms");
        Covenanter x = Scenes.made(Scenes.levels(6).then(y -> {
            y.define();
            y.account(0);
            y.define();
            for (int term = 1; term <= 5; term++) {
                y.term(term);
                y.define();
            }
        }));
        for (int quarter = 0; quarter < 20; quarter++) {
            x.amount(0, quarter, -1000000);
        }
        EDGES.due(-1000000, () -> x.value(0, 0));
        EDGES.due(-6000000, () -> x.value(0, 1));
        EDGES.due(-1023000000, () -> x.value(0, 14));
        EDGES.due(-1024000000, () -> x.value(0, 15));
        EDGES.due(-1024000000, () -> x.value(0, 19));
        EDGES.due(6, () -> x.level(6));
        EDGES.due(-1000000, () -> x.value(6, 19));
        for (int quarter = 0; quarter < 20; quarter++) {
            x.amount(0, quarter, 1000000);
        }
        EDGES.due(1024000000, () -> x.value(0, 19));
        EDGES.due(1000000, () -> x.value(6, 0));
    }

    // ---- texts

    private static void textLengthOfTermsAndQuarters() {
        EDGES.about("textLength: of terms that there are, in quarters 0 to 19");
        EDGES.refused(Edges.INDEX, NOTHING, x -> x.textLength(0, 0));
        EDGES.refused(Edges.INDEX, Scenes.stack(1), x -> x.textLength(0, 0));
        EDGES.range(0, 0, Edges.INDEX, Scenes.numberTerms(1), (x, term) -> x.textLength(term, 0));
        EDGES.range(0, 9, Edges.INDEX, Scenes::full, (x, term) -> x.textLength(term, 19));
        EDGES.range(0, 19, Edges.INDEX, Scenes::some, (x, quarter) -> x.textLength(0, quarter));
        EDGES.refused(Edges.INDEX, Scenes::some, x -> x.textLength(3, 20));
    }

    private static void textCharOfTermsAndQuarters() {
        EDGES.about("textChar: of terms that there are, in quarters 0 to 19");
        EDGES.refused(Edges.INDEX, NOTHING, x -> x.textChar(0, 0, 0));
        EDGES.refused(Edges.INDEX, Scenes.stack(1), x -> x.textChar(0, 0, 0));
        EDGES.range(0, 0, Edges.INDEX, Scenes.numberTerms(1), (x, term) -> x.textChar(term, 0, 0));
        EDGES.range(0, 9, Edges.INDEX, Scenes::full, (x, term) -> x.textChar(term, 19, 0));
        EDGES.range(0, 19, Edges.INDEX, Scenes::some, (x, quarter) -> x.textChar(0, quarter, 0));
    }

    private static void textCharOfPlaces() {
        EDGES.about("textChar: places from 0 up to the last character");
        EDGES.range(0, 0, Edges.INDEX, Scenes.numberTerms(1), (x, place) -> x.textChar(0, 0, place));
        EDGES.range(0, 7, Edges.INDEX, Scenes::some, (x, place) -> x.textChar(1, 3, place));
        EDGES.range(0, 1, Edges.INDEX, Scenes::some, (x, place) -> x.textChar(1, 4, place));
        EDGES.range(0, 1, Edges.INDEX, Scenes::some, (x, place) -> x.textChar(2, 19, place));
        EDGES.taken('y', Scenes::some, x -> x.textChar(1, 3, 0));
        EDGES.taken(')', Scenes::some, x -> x.textChar(1, 3, 7));
        EDGES.taken('7', Scenes::some, x -> x.textChar(1, 4, 1));
    }

    private static void textsOfAllKinds() {
        EDGES.about("texts: of each kind, with the least and the greatest numbers");
        Covenanter x = new Covenanter();
        String[] texts = {"A0", "A5", "0", "1000000", "T0", "(A0 + 1)", "(T4 - A5)", "min(0, 0)",
            "max(9% of T0, year(A0))", "year(100% of 0% of 10)"};
        x.account(0);
        x.define();
        x.account(5);
        x.define();
        x.number(0);
        x.define();
        x.number(1000000);
        x.define();
        x.term(0);
        x.define();
        x.account(0);
        x.number(1);
        x.join(Covenanter.SUM);
        x.define();
        x.term(4);
        x.account(5);
        x.join(Covenanter.LESS);
        x.define();
        x.number(0);
        x.number(0);
        x.join(Covenanter.LESSER);
        x.define();
        x.term(0);
        x.share(9);
        x.account(0);
        x.year();
        x.join(Covenanter.GREATER);
        x.define();
        x.number(10);
        x.share(0);
        x.share(100);
        x.year();
        x.define();
        for (int term = 0; term < 10; term++) {
            int t = term;
            EDGES.dueText(x, t, 0, texts[t]);
            EDGES.dueText(x, t, 19, texts[t]);
            EDGES.due(texts[t].length(), () -> x.textLength(t, 10));
        }
    }

    /** Puts a joined formula of 2 to the power of (level - 1) greatest numbers on the stack. */
    private static String joined(Covenanter x, int level) {
        if (level == 1) {
            x.number(1000000);
            return "1000000";
        }
        String one = joined(x, level - 1);
        String other = joined(x, level - 1);
        x.join(Covenanter.LESSER);
        return "min(" + one + ", " + other + ")";
    }

    private static void longestText() {
        EDGES.about("texts: the longest one, of 32 greatest numbers in 31 joins");
        Covenanter x = new Covenanter();
        String want = joined(x, 6);
        x.define();
        EDGES.due(6, () -> x.level(0));
        EDGES.due(32 * 7 + 31 * 7, () -> x.textLength(0, 0));
        Covenanter y = new Covenanter();
        joined(y, 6);
        y.define();
        for (int place = 0; place < want.length(); place++) {
            int p = place;
            EDGES.due(want.charAt(p), () -> y.textChar(0, 19, p));
        }
        EDGES.refused(Edges.INDEX, Scenes.NOTHING.then(z -> joined(z, 6)).then(z -> z.define()),
            z -> z.textChar(0, 0, 441));
    }

    private static void textIsThatOfItsQuarter() {
        EDGES.about("texts: of the definition that holds in the quarter");
        Covenanter x = Scenes.made(Scenes::some);
        for (int quarter : new int[] {0, 3}) {
            EDGES.dueText(x, 1, quarter, "year(A1)");
        }
        for (int quarter : new int[] {4, 19}) {
            EDGES.dueText(x, 1, quarter, "77");
        }
        for (int quarter : new int[] {0, 17}) {
            EDGES.dueText(x, 2, quarter, "(T0 + 5)");
        }
        for (int quarter : new int[] {18, 19}) {
            EDGES.dueText(x, 2, quarter, "A5");
        }
    }
}
