import java.util.ArrayList;
import java.util.Arrays;

/** A checker of what was promised for a loan: terms over accounts, tests with limits, baskets. */
public final class Covenanter {
    public static final int NONE = -1;
    public static final int SUM = 0, LESS = 1, LESSER = 2, GREATER = 3;
    public static final int ASLEEP = 0, KEPT = 1, CURED = 2, WAIVED = 3, BROKEN = 4;

    // Kinds of formulas beside SUM, LESS, LESSER and GREATER.
    private static final int LEAF = 4, SHARE = 5, YEAR = 6;

    private static final int ACCOUNTS = 6;
    private static final int QUARTERS = 20;
    private static final int QUARTERS_OF_A_YEAR = 4;
    private static final int CURES_OF_A_YEAR = 2;
    private static final int MOST_FORMULAS = 8;
    private static final int MOST_TERMS = 10;
    private static final int MOST_TESTS = 6;
    private static final int MOST_BASKETS = 6;
    private static final int HIGHEST_LEVEL = 6;
    private static final int HIGHEST_LIMIT = 10000;
    private static final int MILLION = 1000000;
    private static final int HUNDRED = 100;

    private final long[][] amounts;
    private final ArrayList<Formula> stack;
    private final ArrayList<Term> terms;
    private final ArrayList<Ratio> ratios;
    private final ArrayList<Basket> baskets;

    public Covenanter() {
        amounts = new long[ACCOUNTS][QUARTERS];
        stack = new ArrayList<Formula>();
        terms = new ArrayList<Term>();
        ratios = new ArrayList<Ratio>();
        baskets = new ArrayList<Basket>();
    }

    // ---- accounts and formulas

    public int amount(int account, int quarter, int amount)
            throws IndexOutOfBoundsException, IllegalArgumentException {
        if (!isAccount(account) || !isQuarter(quarter)) {
            throw new IndexOutOfBoundsException("no such account or quarter");
        }
        if (!isWithin(amount, -MILLION, MILLION)) {
            throw new IllegalArgumentException("the amount is out of its range");
        }
        long before = amounts[account][quarter];
        amounts[account][quarter] = amount;
        settleTerms();
        return (int) before;
    }

    public int account(int account) throws IndexOutOfBoundsException, IllegalStateException {
        if (!isAccount(account)) {
            throw new IndexOutOfBoundsException("no such account");
        }
        if (stack.size() >= MOST_FORMULAS) {
            throw new IllegalStateException("the stack is full");
        }
        return push(new Formula(1, NONE, numbered("A", account), amounts[account]));
    }

    public int number(int number) throws IllegalArgumentException, IllegalStateException {
        if (!isWithin(number, 0, MILLION)) {
            throw new IllegalArgumentException("the number is out of its range");
        }
        if (stack.size() >= MOST_FORMULAS) {
            throw new IllegalStateException("the stack is full");
        }
        long[] values = new long[QUARTERS];
        Arrays.fill(values, number);
        return push(new Formula(1, NONE, numbered("", number), values));
    }

    public int term(int term) throws IndexOutOfBoundsException, IllegalStateException {
        if (!isTerm(term)) {
            throw new IndexOutOfBoundsException("no such term");
        }
        Term named = terms.get(term);
        if (stack.size() >= MOST_FORMULAS || named.level >= HIGHEST_LEVEL) {
            throw new IllegalStateException("the stack is full, or the term's level is the highest");
        }
        return push(new Formula(named.level + 1, term, numbered("T", term), named.values));
    }

    public int join(int kind) throws IllegalArgumentException, IllegalStateException {
        if (!isWithin(kind, SUM, GREATER)) {
            throw new IllegalArgumentException("no such kind");
        }
        int height = stack.size();
        if (height < 2 || !canGrow(stack.get(height - 2)) || !canGrow(stack.get(height - 1))) {
            throw new IllegalStateException("fewer than two formulas, or one of the highest level");
        }
        Formula other = stack.remove(height - 1);
        Formula one = stack.remove(height - 2);
        return push(new Formula(kind, 0, one, other, joinText(kind, one.text, other.text)));
    }

    public int share(int percents) throws IllegalArgumentException, IllegalStateException {
        if (!isWithin(percents, 0, HUNDRED)) {
            throw new IllegalArgumentException("the percents are out of their range");
        }
        int height = stack.size();
        if (height == 0 || !canGrow(stack.get(height - 1))) {
            throw new IllegalStateException("no formula, or one of the highest level");
        }
        Formula whole = stack.remove(height - 1);
        Formula made = new Formula(SHARE, percents, whole, null, shareText(percents, whole.text));
        push(made);
        return made.level;
    }

    public int year() throws IllegalStateException {
        int height = stack.size();
        if (height == 0 || !canGrow(stack.get(height - 1))) {
            throw new IllegalStateException("no formula, or one of the highest level");
        }
        Formula quarterly = stack.remove(height - 1);
        Formula made = new Formula(YEAR, 0, quarterly, null, yearText(quarterly.text));
        push(made);
        return made.level;
    }

    public int clear() {
        int height = stack.size();
        stack.clear();
        return height;
    }

    private int push(Formula formula) {
        stack.add(formula);
        return stack.size();
    }

    private static boolean canGrow(Formula formula) {
        return formula.level < HIGHEST_LEVEL;
    }

    private static String numbered(String sign, int number) {
        StringBuilder text = new StringBuilder();
        text.append(sign).append(number);
        return text.toString();
    }

    private static String joinText(int kind, String one, String other) {
        StringBuilder text = new StringBuilder();
        if (kind == LESSER) {
            text.append("min");
        } else if (kind == GREATER) {
            text.append("max");
        }
        text.append('(').append(one);
        if (kind == SUM) {
            text.append(" + ");
        } else if (kind == LESS) {
            text.append(" - ");
        } else {
            text.append(", ");
        }
        text.append(other).append(')');
        return text.toString();
    }

    private static String shareText(int percents, String whole) {
        StringBuilder text = new StringBuilder();
        text.append(percents).append("% of ").append(whole);
        return text.toString();
    }

    private static String yearText(String quarterly) {
        StringBuilder text = new StringBuilder();
        text.append("year(").append(quarterly).append(')');
        return text.toString();
    }

    // ---- terms

    public int define() throws IllegalStateException {
        int height = stack.size();
        if (height == 0 || terms.size() >= MOST_TERMS) {
            throw new IllegalStateException("no formula, or too many terms");
        }
        Formula formula = stack.remove(height - 1);
        terms.add(new Term(formula));
        settleTerms();
        return terms.size() - 1;
    }

    public int amend(int term, int quarter) throws IndexOutOfBoundsException, IllegalStateException {
        if (!isTerm(term) || !isQuarter(quarter)) {
            throw new IndexOutOfBoundsException("no such term or quarter");
        }
        int height = stack.size();
        Term amended = terms.get(term);
        if (height == 0 || !canAmend(amended, term, stack.get(height - 1))) {
            throw new IllegalStateException("no formula, or one that the term can't have");
        }
        Formula formula = stack.remove(height - 1);
        if (amended.definitions[quarter] == null) {
            amended.definitionCount++;
        }
        amended.definitions[quarter] = formula;
        settleTerms();
        return amended.definitionCount;
    }

    public int terms() {
        return terms.size();
    }

    public int level(int term) throws IndexOutOfBoundsException {
        if (!isTerm(term)) {
            throw new IndexOutOfBoundsException("no such term");
        }
        return terms.get(term).level;
    }

    public long value(int term, int quarter) throws IndexOutOfBoundsException {
        if (!isTerm(term) || !isQuarter(quarter)) {
            throw new IndexOutOfBoundsException("no such term or quarter");
        }
        return terms.get(term).values[quarter];
    }

    public int textLength(int term, int quarter) throws IndexOutOfBoundsException {
        if (!isTerm(term) || !isQuarter(quarter)) {
            throw new IndexOutOfBoundsException("no such term or quarter");
        }
        return textIn(terms.get(term), quarter).length();
    }

    public char textChar(int term, int quarter, int place) throws IndexOutOfBoundsException {
        if (!isTerm(term) || !isQuarter(quarter)) {
            throw new IndexOutOfBoundsException("no such term or quarter");
        }
        String text = textIn(terms.get(term), quarter);
        if (place < 0 || place >= text.length()) {
            throw new IndexOutOfBoundsException("no such character");
        }
        return text.charAt(place);
    }

    // No look at indirect naming is needed: a term only ever names terms with lower numbers.
    private static boolean canAmend(Term amended, int number, Formula formula) {
        return formula.level <= amended.level && formula.greatestTerm < number;
    }

    private static String textIn(Term term, int quarter) {
        for (int from = quarter; from >= 0; from--) {
            Formula definition = term.definitions[from];
            if (definition != null) {
                return definition.text;
            }
        }
        return "";
    }

    // In the order of their numbers, as a term's values rest on those of terms with lower numbers.
    private void settleTerms() {
        for (int number = 0; number < terms.size(); number++) {
            settleTerm(terms.get(number));
        }
    }

    private static void settleTerm(Term term) {
        Formula holding = null;
        for (int quarter = 0; quarter < QUARTERS; quarter++) {
            Formula definition = term.definitions[quarter];
            if (definition != null) {
                holding = definition;
                settleFormula(holding, HIGHEST_LEVEL);
            }
            if (holding != null) {
                term.values[quarter] = holding.values[quarter];
            }
        }
    }

    // All quarters at once, as a year looks back on quarters ahead of the one that is asked for.
    private static void settleFormula(Formula formula, int depthLeft) {
        if (formula == null || formula.kind == LEAF || depthLeft <= 0) {
            return;
        }
        settleFormula(formula.first, depthLeft - 1);
        settleFormula(formula.second, depthLeft - 1);
        for (int quarter = 0; quarter < QUARTERS; quarter++) {
            formula.values[quarter] = valueMade(formula, quarter);
        }
    }

    private static long valueMade(Formula formula, int quarter) {
        Formula first = formula.first;
        if (first == null) {
            return 0;
        }
        if (formula.kind == SHARE) {
            return shareOf(first.values[quarter], formula.percents);
        }
        if (formula.kind == YEAR) {
            return yearOf(first.values, quarter);
        }
        Formula second = formula.second;
        if (second == null) {
            return 0;
        }
        return joinOf(formula.kind, first.values[quarter], second.values[quarter]);
    }

    private static long joinOf(int kind, long one, long other) {
        switch (kind) {
            case SUM:
                return one + other;
            case LESS:
                return one - other;
            case LESSER:
                return Math.min(one, other);
            default:
                return Math.max(one, other);
        }
    }

    private static long shareOf(long whole, int percents) {
        return Math.floorDiv(whole * percents, (long) HUNDRED);
    }

    private static long yearOf(long[] values, int quarter) {
        long sum = 0;
        for (int back = 0; back < QUARTERS_OF_A_YEAR && back <= quarter; back++) {
            sum += values[quarter - back];
        }
        return sum;
    }

    // ---- tests

    public int test(int top, int bottom) throws IndexOutOfBoundsException, IllegalStateException {
        if (!isTerm(top) || !isTerm(bottom)) {
            throw new IndexOutOfBoundsException("no such term");
        }
        if (ratios.size() >= MOST_TESTS) {
            throw new IllegalStateException("too many tests");
        }
        ratios.add(new Ratio(terms.get(top), terms.get(bottom)));
        return ratios.size() - 1;
    }

    public int limit(int test, int quarter, int hundredths)
            throws IndexOutOfBoundsException, IllegalArgumentException {
        if (!isTest(test) || !isQuarter(quarter)) {
            throw new IndexOutOfBoundsException("no such test or quarter");
        }
        if (!isWithin(hundredths, 0, HIGHEST_LIMIT)) {
            throw new IllegalArgumentException("the limit is out of its range");
        }
        Ratio ratio = ratios.get(test);
        if (ratio.limits[quarter] == NONE) {
            ratio.limitCount++;
        }
        ratio.limits[quarter] = hundredths;
        return ratio.limitCount;
    }

    public int wake(int test, int account, int least)
            throws IndexOutOfBoundsException, IllegalArgumentException {
        if (!isTest(test) || account != NONE && !isAccount(account)) {
            throw new IndexOutOfBoundsException("no such test or account");
        }
        if (!isWithin(least, -MILLION, MILLION)) {
            throw new IllegalArgumentException("the least amount is out of its range");
        }
        Ratio ratio = ratios.get(test);
        int before = ratio.wakeAccount;
        ratio.wakeAccount = account;
        ratio.wakeLeast = least;
        return before;
    }

    public int cure(int test, int quarter, int money)
            throws IndexOutOfBoundsException, IllegalArgumentException, IllegalStateException {
        if (!isTest(test) || !isQuarter(quarter)) {
            throw new IndexOutOfBoundsException("no such test or quarter");
        }
        if (!isWithin(money, 1, MILLION)) {
            throw new IllegalArgumentException("the money is out of its range");
        }
        Ratio ratio = ratios.get(test);
        if (ratio.cures[quarter] != 0 || !hasCureLeft(ratio.cures, quarter)) {
            throw new IllegalStateException("a cure in that quarter, or too many about it");
        }
        ratio.cures[quarter] = money;
        ratio.cureCount++;
        return ratio.cureCount;
    }

    public boolean waive(int test, int quarter) throws IndexOutOfBoundsException {
        if (!isTest(test) || !isQuarter(quarter)) {
            throw new IndexOutOfBoundsException("no such test or quarter");
        }
        Ratio ratio = ratios.get(test);
        ratio.waived[quarter] = !ratio.waived[quarter];
        return ratio.waived[quarter];
    }

    public int state(int test, int quarter) throws IndexOutOfBoundsException {
        if (!isTest(test) || !isQuarter(quarter)) {
            throw new IndexOutOfBoundsException("no such test or quarter");
        }
        return stateIn(ratios.get(test), quarter);
    }

    public long room(int test, int quarter) throws IndexOutOfBoundsException, IllegalStateException {
        if (!isTest(test) || !isQuarter(quarter)) {
            throw new IndexOutOfBoundsException("no such test or quarter");
        }
        Ratio ratio = ratios.get(test);
        int limit = limitIn(ratio, quarter);
        long bottom = ratio.bottom.values[quarter] + ratio.cures[quarter];
        if (limit == NONE || bottom <= 0) {
            throw new IllegalStateException("no limit, or a bottom that is not above 0");
        }
        return Math.floorDiv(limit * bottom, (long) HUNDRED) - ratio.top.values[quarter];
    }

    public int broken() {
        int pairs = 0;
        for (int test = 0; test < ratios.size(); test++) {
            for (int quarter = 0; quarter < QUARTERS; quarter++) {
                if (stateIn(ratios.get(test), quarter) == BROKEN) {
                    pairs++;
                }
            }
        }
        return pairs;
    }

    private int stateIn(Ratio ratio, int quarter) {
        int limit = limitIn(ratio, quarter);
        if (limit == NONE || isBelowWake(ratio, quarter)) {
            return ASLEEP;
        }
        long top = ratio.top.values[quarter];
        long bottom = ratio.bottom.values[quarter];
        if (isKept(top, bottom, limit)) {
            return KEPT;
        }
        if (isKept(top, bottom + ratio.cures[quarter], limit)) {
            return CURED;
        }
        return ratio.waived[quarter] ? WAIVED : BROKEN;
    }

    private boolean isBelowWake(Ratio ratio, int quarter) {
        int account = ratio.wakeAccount;
        return isAccount(account) && amounts[account][quarter] < ratio.wakeLeast;
    }

    private static boolean isKept(long top, long bottom, int limit) {
        return bottom > 0 && HUNDRED * top <= limit * bottom;
    }

    private static int limitIn(Ratio ratio, int quarter) {
        for (int from = quarter; from >= 0; from--) {
            if (ratio.limits[from] != NONE) {
                return ratio.limits[from];
            }
        }
        return NONE;
    }

    // Whether every year that the quarter lies in has fewer cures than it may have.
    private static boolean hasCureLeft(int[] cures, int quarter) {
        for (int start = quarter - QUARTERS_OF_A_YEAR + 1; start <= quarter; start++) {
            if (curesFrom(cures, start) >= CURES_OF_A_YEAR) {
                return false;
            }
        }
        return true;
    }

    private static int curesFrom(int[] cures, int start) {
        int count = 0;
        for (int quarter = start; quarter < start + QUARTERS_OF_A_YEAR; quarter++) {
            if (isQuarter(quarter) && cures[quarter] != 0) {
                count++;
            }
        }
        return count;
    }

    // ---- baskets

    public int basket(int fixed, int term, int percents)
            throws IllegalArgumentException, IndexOutOfBoundsException, IllegalStateException {
        if (!isWithin(fixed, 0, MILLION) || !isWithin(percents, 0, HUNDRED)) {
            throw new IllegalArgumentException("the fixed amount or the percents are out of range");
        }
        if (!isTerm(term)) {
            throw new IndexOutOfBoundsException("no such term");
        }
        if (baskets.size() >= MOST_BASKETS) {
            throw new IllegalStateException("too many baskets");
        }
        baskets.add(new Basket(fixed, terms.get(term), percents));
        return baskets.size() - 1;
    }

    public long size(int basket, int quarter) throws IndexOutOfBoundsException {
        if (!isBasket(basket) || !isQuarter(quarter)) {
            throw new IndexOutOfBoundsException("no such basket or quarter");
        }
        return sizeIn(baskets.get(basket), quarter);
    }

    public long use(int basket, int quarter, int amount)
            throws IndexOutOfBoundsException, IllegalArgumentException, IllegalStateException {
        if (!isBasket(basket) || !isQuarter(quarter)) {
            throw new IndexOutOfBoundsException("no such basket or quarter");
        }
        if (!isWithin(amount, 1, MILLION)) {
            throw new IllegalArgumentException("the amount is out of its range");
        }
        Basket drawn = baskets.get(basket);
        if (drawn.used + amount > sizeIn(drawn, quarter)) {
            throw new IllegalStateException("more than the basket's size");
        }
        drawn.used += amount;
        return drawn.used;
    }

    public long refill(int basket, int amount)
            throws IndexOutOfBoundsException, IllegalArgumentException, IllegalStateException {
        if (!isBasket(basket)) {
            throw new IndexOutOfBoundsException("no such basket");
        }
        if (!isWithin(amount, 1, MILLION)) {
            throw new IllegalArgumentException("the amount is out of its range");
        }
        Basket filled = baskets.get(basket);
        if (filled.used < amount) {
            throw new IllegalStateException("less is used of the basket");
        }
        filled.used -= amount;
        return filled.used;
    }

    private static long sizeIn(Basket basket, int quarter) {
        long value = basket.term.values[quarter];
        return value > 0 ? basket.fixed + shareOf(value, basket.percents) : basket.fixed;
    }

    // ---- what there is

    private static boolean isWithin(int number, int least, int most) {
        return number >= least && number <= most;
    }

    private static boolean isAccount(int account) {
        return account >= 0 && account < ACCOUNTS;
    }

    private static boolean isQuarter(int quarter) {
        return quarter >= 0 && quarter < QUARTERS;
    }

    private boolean isTerm(int term) {
        return term >= 0 && term < terms.size();
    }

    private boolean isTest(int test) {
        return test >= 0 && test < ratios.size();
    }

    private boolean isBasket(int basket) {
        return basket >= 0 && basket < baskets.size();
    }

    /** An account, a number or a term (a leaf), or what is made of one or two formulas. */
    private static final class Formula {
        private final int kind;
        private final int percents;
        private final Formula first;
        private final Formula second;
        private final int level;
        private final int greatestTerm;
        private final String text;
        // By quarter. A leaf shares the row of its account or term, and so is never out of date.
        private final long[] values;

        private Formula(int level, int greatestTerm, String text, long[] values) {
            this.kind = LEAF;
            this.percents = 0;
            this.first = null;
            this.second = null;
            this.level = level;
            this.greatestTerm = greatestTerm;
            this.text = text;
            this.values = values;
        }

        private Formula(int kind, int percents, Formula first, Formula second, String text) {
            this.kind = kind;
            this.percents = percents;
            this.first = first;
            this.second = second;
            this.level = 1 + Math.max(levelOf(first), levelOf(second));
            this.greatestTerm = Math.max(greatestTermOf(first), greatestTermOf(second));
            this.text = text;
            this.values = new long[QUARTERS];
        }

        private static int levelOf(Formula part) {
            return part == null ? 0 : part.level;
        }

        private static int greatestTermOf(Formula part) {
            return part == null ? NONE : part.greatestTerm;
        }
    }

    /** A term, with its definitions by the quarter from which they hold, null where none begins. */
    private static final class Term {
        private final int level;
        private final Formula[] definitions;
        private int definitionCount;
        private final long[] values;

        private Term(Formula formula) {
            this.level = formula.level;
            this.definitions = new Formula[QUARTERS];
            this.definitions[0] = formula;
            this.definitionCount = 1;
            this.values = new long[QUARTERS];
        }
    }

    /** A test of two terms; its limits by the quarter from which they hold, its cures by quarter. */
    private static final class Ratio {
        private final Term top;
        private final Term bottom;
        private final int[] limits;
        private int limitCount;
        private int wakeAccount;
        private int wakeLeast;
        private final int[] cures;
        private int cureCount;
        private final boolean[] waived;

        private Ratio(Term top, Term bottom) {
            this.top = top;
            this.bottom = bottom;
            this.limits = new int[QUARTERS];
            Arrays.fill(this.limits, NONE);
            this.wakeAccount = NONE;
            this.cures = new int[QUARTERS];
            this.waived = new boolean[QUARTERS];
        }
    }

    /** A fixed amount and a share of a term, and what is used of both. */
    private static final class Basket {
        private final int fixed;
        private final Term term;
        private final int percents;
        private long used;

        private Basket(int fixed, Term term, int percents) {
            this.fixed = fixed;
            this.term = term;
            this.percents = percents;
        }
    }
}
