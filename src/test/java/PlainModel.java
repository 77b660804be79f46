import java.util.ArrayDeque;
import java.util.ArrayList;
import java.util.List;
import java.util.Set;
import java.util.TreeMap;
import java.util.TreeSet;

/** The document once more, with the Java library and without care for speed: ModelTest's measure. */
final class PlainModel {
    interface Value {
        long in(int quarter);
    }

    static final class Formula {
        final String text;
        final int level;
        final Set<Integer> names;
        final Value value;

        Formula(String text, int level, Set<Integer> names, Value value) {
            this.text = text;
            this.level = level;
            this.names = names;
            this.value = value;
        }
    }

    static final class Test {
        int top;
        int bottom;
        final TreeMap<Integer, Integer> limits = new TreeMap<>();
        final TreeMap<Integer, Integer> cures = new TreeMap<>();
        final TreeSet<Integer> waived = new TreeSet<>();
        int account = -1;
        int least;
    }

    static final class Basket {
        int fixed;
        int term;
        int percents;
        long used;
    }

    private final int[][] amounts = new int[6][20];
    private final ArrayDeque<Formula> stack = new ArrayDeque<>();
    private final List<TreeMap<Integer, Formula>> terms = new ArrayList<>();
    private final List<Integer> levels = new ArrayList<>();
    private final List<Test> tests = new ArrayList<>();
    private final List<Basket> baskets = new ArrayList<>();

    private static void index(boolean holds) {
        if (!holds) {
            throw new IndexOutOfBoundsException();
        }
    }

    private static void argument(boolean holds) {
        if (!holds) {
            throw new IllegalArgumentException();
        }
    }

    private static void state(boolean holds) {
        if (!holds) {
            throw new IllegalStateException();
        }
    }

    private static boolean in(long number, long least, long most) {
        return least <= number && number <= most;
    }

    private static boolean quarter(int quarter) {
        return in(quarter, 0, 19);
    }

    private long push(Formula formula) {
        stack.push(formula);
        return stack.size();
    }

    private Formula holding(int term, int quarter) {
        return terms.get(term).floorEntry(quarter).getValue();
    }

    /** Answers the call of a number from 0 to 26, in the order of the document's face. */
    long call(int call, int a, int b, int c) {
        if (call < 8) {
            return formulaCall(call, a, b, c);
        }
        if (call < 15) {
            return termCall(call, a, b, c);
        }
        return call < 23 ? testCall(call, a, b, c) : basketCall(call, a, b, c);
    }

    private long formulaCall(int call, int a, int b, int c) {
        switch (call) {
            case 0:
                index(in(a, 0, 5) && quarter(b));
                argument(in(c, -1000000, 1000000));
                int before = amounts[a][b];
                amounts[a][b] = c;
                return before;
            case 1:
                index(in(a, 0, 5));
                state(stack.size() < 8);
                return push(new Formula("A" + a, 1, Set.of(), q -> amounts[a][q]));
            case 2:
                argument(in(a, 0, 1000000));
                state(stack.size() < 8);
                return push(new Formula("" + a, 1, Set.of(), q -> a));
            case 3:
                index(in(a, 0, terms.size() - 1));
                state(stack.size() < 8 && levels.get(a) < 6);
                return push(new Formula("T" + a, levels.get(a) + 1, Set.of(a), q -> holding(a, q).value.in(q)));
            case 4:
                argument(in(a, 0, 3));
                return join(a);
            case 5:
                argument(in(a, 0, 100));
                state(!stack.isEmpty() && stack.peek().level < 6);
                Formula whole = stack.pop();
                push(new Formula(a + "% of " + whole.text, whole.level + 1, whole.names,
                    q -> (long) Math.floor(whole.value.in(q) * a / 100.0)));
                return stack.peek().level;
            case 6:
                state(!stack.isEmpty() && stack.peek().level < 6);
                Formula part = stack.pop();
                push(new Formula("year(" + part.text + ")", part.level + 1, part.names,
                    q -> part.value.in(q) + (q > 0 ? part.value.in(q - 1) : 0)
                        + (q > 1 ? part.value.in(q - 2) : 0) + (q > 2 ? part.value.in(q - 3) : 0)));
                return stack.peek().level;
            default:
                int height = stack.size();
                stack.clear();
                return height;
        }
    }

    private long join(int kind) {
        state(stack.size() >= 2);
        Formula other = stack.pop();
        Formula one = stack.pop();
        if (one.level == 6 || other.level == 6) {
            push(one);
            push(other);
            throw new IllegalStateException();
        }
        String[] openers = {"(", "(", "min(", "max("};
        String[] betweens = {" + ", " - ", ", ", ", "};
        String text = openers[kind] + one.text + betweens[kind] + other.text + ")";
        Set<Integer> names = new TreeSet<>(one.names);
        names.addAll(other.names);
        return push(new Formula(text, Math.max(one.level, other.level) + 1, names, q -> {
            long x = one.value.in(q);
            long y = other.value.in(q);
            return new long[] {x + y, x - y, x < y ? x : y, x > y ? x : y}[kind];
        }));
    }

    private long termCall(int call, int a, int b, int c) {
        if (call == 10) {
            return terms.size();
        }
        if (call == 8) {
            state(!stack.isEmpty() && terms.size() < 10);
            TreeMap<Integer, Formula> definitions = new TreeMap<>();
            levels.add(stack.peek().level);
            definitions.put(0, stack.pop());
            terms.add(definitions);
            return terms.size() - 1;
        }
        index(in(a, 0, terms.size() - 1) && (call == 11 || quarter(b)));
        switch (call) {
            case 9:
                state(!stack.isEmpty() && stack.peek().level <= levels.get(a) && allNamed(stack.peek(), a));
                terms.get(a).put(b, stack.pop());
                return terms.get(a).size();
            case 11:
                return levels.get(a);
            case 12:
                return holding(a, b).value.in(b);
            case 13:
                return holding(a, b).text.length();
            default:
                index(in(c, 0, holding(a, b).text.length() - 1));
                return holding(a, b).text.charAt(c);
        }
    }

    private boolean allNamed(Formula formula, int below) {
        for (int name : formula.names) {
            if (name >= below) {
                return false;
            }
            for (Formula definition : terms.get(name).values()) {
                if (!allNamed(definition, below)) {
                    return false;
                }
            }
        }
        return true;
    }

    private long testCall(int call, int a, int b, int c) {
        if (call == 15) {
            index(in(a, 0, terms.size() - 1) && in(b, 0, terms.size() - 1));
            state(tests.size() < 6);
            Test made = new Test();
            made.top = a;
            made.bottom = b;
            tests.add(made);
            return tests.size() - 1;
        }
        if (call == 22) {
            long count = 0;
            for (Test test : tests) {
                for (int quarter = 0; quarter < 20; quarter++) {
                    count += stateOf(test, quarter) == 4 ? 1 : 0;
                }
            }
            return count;
        }
        index(in(a, 0, tests.size() - 1));
        index(call == 17 ? in(b, -1, 5) : quarter(b));
        Test test = tests.get(a);
        switch (call) {
            case 16:
                argument(in(c, 0, 10000));
                test.limits.put(b, c);
                return test.limits.size();
            case 17:
                argument(in(c, -1000000, 1000000));
                int before = test.account;
                test.account = b;
                test.least = c;
                return before;
            case 18:
                return cure(test, b, c);
            case 19:
                if (!test.waived.remove(b)) {
                    test.waived.add(b);
                }
                return test.waived.contains(b) ? 1 : 0;
            case 20:
                return stateOf(test, b);
            default:
                long bottom = holding(test.bottom, b).value.in(b) + test.cures.getOrDefault(b, 0);
                state(test.limits.floorKey(b) != null && bottom > 0);
                return (long) Math.floor(test.limits.floorEntry(b).getValue() * bottom / 100.0)
                    - holding(test.top, b).value.in(b);
        }
    }

    private static long cure(Test test, int quarter, int money) {
        argument(in(money, 1, 1000000));
        state(!test.cures.containsKey(quarter));
        for (int start = 0; start <= 16; start++) {
            boolean within = in(quarter, start, start + 3);
            state(!within || test.cures.subMap(start, start + 4).size() < 2);
        }
        test.cures.put(quarter, money);
        return test.cures.size();
    }

    private int stateOf(Test test, int quarter) {
        boolean asleep = test.limits.floorKey(quarter) == null
            || test.account >= 0 && amounts[test.account][quarter] < test.least;
        if (asleep) {
            return 0;
        }
        long top = 100 * holding(test.top, quarter).value.in(quarter);
        long bottom = holding(test.bottom, quarter).value.in(quarter);
        int limit = test.limits.floorEntry(quarter).getValue();
        if (bottom > 0 && top <= limit * bottom) {
            return 1;
        }
        Integer cure = test.cures.get(quarter);
        if (cure != null && bottom + cure > 0 && top <= limit * (bottom + cure)) {
            return 2;
        }
        return test.waived.contains(quarter) ? 3 : 4;
    }

    private long basketCall(int call, int a, int b, int c) {
        if (call == 23) {
            argument(in(a, 0, 1000000) && in(c, 0, 100));
            index(in(b, 0, terms.size() - 1));
            state(baskets.size() < 6);
            Basket made = new Basket();
            made.fixed = a;
            made.term = b;
            made.percents = c;
            baskets.add(made);
            return baskets.size() - 1;
        }
        index(in(a, 0, baskets.size() - 1) && (call == 26 || quarter(b)));
        Basket basket = baskets.get(a);
        if (call == 26) {
            argument(in(b, 1, 1000000));
            state(basket.used >= b);
            return basket.used -= b;
        }
        long value = holding(basket.term, b).value.in(b);
        long size = basket.fixed + (value > 0 ? value * basket.percents / 100 : 0);
        if (call == 24) {
            return size;
        }
        argument(in(c, 1, 1000000));
        state(basket.used + c <= size);
        return basket.used += c;
    }
}
