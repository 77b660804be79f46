import java.util.Random;

/** Runs of chosen calls, answered by the program and by the plain model; the seeds are fixed. */
public final class ModelTest {
    private static final String[] NAMES = {
        "amount", "account", "number", "term", "join", "share", "year", "clear",
        "define", "amend", "terms", "level", "value", "textLength", "textChar",
        "test", "limit", "wake", "cure", "waive", "state", "room", "broken",
        "basket", "size", "use", "refill"
    };
    // How often each call is chosen, in the order of the names.
    private static final int[] WEIGHTS = {
        14, 8, 4, 8, 10, 5, 5, 1, 10, 8, 1, 2, 8, 3, 6, 3, 6, 3, 6, 3, 8, 8, 1, 3, 4, 8, 4
    };
    private static final int[] ODD = {
        Integer.MIN_VALUE, -1000001, -1000000, -2, -1, 0, 1, 5, 6, 7, 8, 9, 10, 19, 20, 21,
        100, 101, 10000, 10001, 1000000, 1000001, Integer.MAX_VALUE
    };

    private static final Checks CHECKS = new Checks("ModelTest");
    private static final int[][] ANSWERED = new int[NAMES.length][2];

    public static void main(String[] args) {
        for (int seed = 0; seed < 1500; seed++) {
            compare(seed, 512, 40);
        }
        for (int seed = 0; seed < 150; seed++) {
            compare(100000 + seed, 512, 3);
        }
        // What calls after the 512th answer is free, but the machine may not throw in them either.
        for (int seed = 0; seed < 20; seed++) {
            compare(200000 + seed, 5000, 15);
        }
        for (int call = 0; call < NAMES.length; call++) {
            CHECKS.about(NAMES[call] + " has to answer often enough");
            CHECKS.due("true", String.valueOf(ANSWERED[call][0] > 1000));
            boolean mayThrow = call != 7 && call != 10 && call != 22;
            CHECKS.due("true", String.valueOf(ANSWERED[call][1] > 1000 || !mayThrow));
        }
        CHECKS.end();
    }

    private static void compare(int seed, int calls, int oddOneIn) {
        Random random = new Random(seed);
        Covenanter program = new Covenanter();
        PlainModel model = new PlainModel();
        int wrongBefore = CHECKS.wrong();
        for (int done = 0; done < calls && CHECKS.wrong() == wrongBefore; done++) {
            int call = choose(random);
            int[] x = arguments(random, call);
            for (int place = 0; place < 3; place++) {
                if (random.nextInt(oddOneIn) == 0) {
                    x[place] = ODD[random.nextInt(ODD.length)];
                }
            }
            CHECKS.about("seed " + seed + ", call " + done + ", " + NAMES[call]
                + "(" + x[0] + ", " + x[1] + ", " + x[2] + ")");
            String want = Checks.told(() -> model.call(call, x[0], x[1], x[2]));
            ANSWERED[call][want.endsWith("Exception") ? 1 : 0]++;
            CHECKS.due(want, Checks.told(() -> answer(program, call, x[0], x[1], x[2])));
        }
    }

    private static int choose(Random random) {
        int sum = 0;
        for (int weight : WEIGHTS) {
            sum += weight;
        }
        int left = random.nextInt(sum);
        int call = 0;
        while (left >= WEIGHTS[call]) {
            left -= WEIGHTS[call];
            call++;
        }
        return call;
    }

    // Mostly few quarters and small amounts, so that calls meet and values lie near their limits.
    private static int[] arguments(Random random, int call) {
        int quarter = random.nextInt(3) == 0 ? random.nextInt(20) : random.nextInt(6);
        int money = random.nextInt(8) == 0 ? random.nextInt(1000001) : random.nextInt(60);
        int few = random.nextInt(random.nextInt(4) == 0 ? 10 : 4);
        switch (call) {
            case 0:
                return new int[] {random.nextInt(6), quarter, random.nextInt(4) == 0 ? -money : money};
            case 1:
                return new int[] {random.nextInt(6), 0, 0};
            case 2:
                return new int[] {money, 0, 0};
            case 4:
                return new int[] {random.nextInt(4), 0, 0};
            case 5:
                return new int[] {random.nextInt(101), 0, 0};
            case 14:
                return new int[] {few, quarter, random.nextInt(20)};
            case 15:
                return new int[] {few, random.nextInt(4), 0};
            case 16:
                return new int[] {few, quarter, random.nextInt(random.nextBoolean() ? 300 : 10001)};
            case 17:
                return new int[] {few, random.nextInt(7) - 1, random.nextInt(4) == 0 ? -money : money};
            case 23:
                return new int[] {money, few, random.nextInt(101)};
            case 26:
                return new int[] {few, money, 0};
            default:
                return new int[] {few, quarter, money};
        }
    }

    private static long answer(Covenanter x, int call, int a, int b, int c) {
        switch (call) {
            case 0: return x.amount(a, b, c);
            case 1: return x.account(a);
            case 2: return x.number(a);
            case 3: return x.term(a);
            case 4: return x.join(a);
            case 5: return x.share(a);
            case 6: return x.year();
            case 7: return x.clear();
            case 8: return x.define();
            case 9: return x.amend(a, b);
            case 10: return x.terms();
            case 11: return x.level(a);
            case 12: return x.value(a, b);
            case 13: return x.textLength(a, b);
            case 14: return x.textChar(a, b, c);
            case 15: return x.test(a, b);
            case 16: return x.limit(a, b, c);
            case 17: return x.wake(a, b, c);
            case 18: return x.cure(a, b, c);
            case 19: return x.waive(a, b) ? 1 : 0;
            case 20: return x.state(a, b);
            case 21: return x.room(a, b);
            case 22: return x.broken();
            case 23: return x.basket(a, b, c);
            case 24: return x.size(a, b);
            case 25: return x.use(a, b, c);
            default: return x.refill(a, b);
        }
    }
}
