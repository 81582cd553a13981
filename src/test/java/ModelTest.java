import java.util.Random;
import java.util.function.ToLongFunction;

/** Drawn runs of calls, the same ones every time: each answer, and all that can be seen, is the model's. */
public final class ModelTest {
    private static final Check CHECK = new Check("ModelTest");
    private static final int RUNS = 1200;
    private static final int MOST_CALLS = 490;
    private static final int[] EDGES = {Integer.MIN_VALUE, -2, -1, 0, 1, 2, 3, 4, 5, 6, 7, 8, 9, 10, 199, 200, 299,
        300, 301, 511, 512, 1000, 1001, Integer.MAX_VALUE};
    /** How often, of a hundred: ask, give, plan, take, run, lose, twice, down, copy; the rest are looks. */
    private static final int[][] STYLES = {
        {14, 2, 4, 32, 12, 3, 4, 4, 5},
        {42, 30, 2, 5, 8, 1, 1, 1, 2},
        {16, 14, 4, 4, 0, 0, 56, 1, 1},
        {26, 1, 2, 18, 30, 1, 1, 1, 4},
        {57, 1, 0, 0, 41, 0, 0, 0, 1}
    };

    private static int doneSeen = 0;
    private static int failedSeen = 0;
    private static int lostSeen = 0;
    private static int fullSeen = 0;
    private static int usedUpSeen = 0;
    private static int refusedSeen = 0;

    public static void main(String[] args) {
        for (int run = 0; run < RUNS; run++) {
            againstTheModel(run);
        }
        CHECK.due("many that are done", doneSeen > 1000, true);
        CHECK.due("many that failed", failedSeen > 100, true);
        CHECK.due("many that are lost", lostSeen > 1000, true);
        CHECK.due("many calls on a full row", fullSeen > 1000, true);
        CHECK.due("some runs with 200 requests", usedUpSeen > 5, true);
        CHECK.due("many calls that are refused", refusedSeen > 1000, true);
        CHECK.end();
    }

    private static void againstTheModel(int run) {
        Random random = new Random(7919L * run);
        Story x = new Story();
        Model model = new Model();
        int calls = run % 3 == 0 ? MOST_CALLS : 1 + random.nextInt(MOST_CALLS);
        for (int call = 0; call < calls; call++) {
            ToLongFunction<Face> drawn = draw(random, STYLES[run % STYLES.length], model);
            String want = answer(drawn, model);
            CHECK.same("run " + run + ", call " + call, answer(drawn, x), want);
            fullSeen += model.messages() == 300 ? 1 : 0;
            refusedSeen += want.startsWith("throws") ? 1 : 0;
        }
        CHECK.same("run " + run + " leaves", x.view(), View.of(model));
        count(model);
    }

    private static String answer(ToLongFunction<Face> call, Face x) {
        try {
            return Long.toString(call.applyAsLong(x));
        } catch (IndexOutOfBoundsException | IllegalArgumentException e) {
            boolean named = e.getClass() == IndexOutOfBoundsException.class
                    || e.getClass() == IllegalArgumentException.class;
            String by = e.getStackTrace()[0].getClassName();
            boolean own = by.startsWith("SharedRegisters") || by.startsWith("Model");
            return "throws" + (own ? "." : " by another: ") + (named ? e.getClass().getSimpleName() : e.toString());
        }
    }

    private static void count(Model model) {
        int requests = View.requests(model);
        for (int r = 0; r < requests; r++) {
            doneSeen += model.request(r, 0) == 1 ? 1 : 0;
            failedSeen += model.request(r, 1);
            lostSeen += model.request(r, 0) == 2 ? 1 : 0;
        }
        usedUpSeen += requests == 200 ? 1 : 0;
    }

    private static ToLongFunction<Face> draw(Random random, int[] style, Model model) {
        int drawn = random.nextInt(100);
        int kind = 0;
        while (kind < style.length && drawn >= style[kind]) {
            drawn -= style[kind];
            kind++;
        }
        int asker = below(random, 4);
        int i = below(random, model.messages());
        int keeper = below(random, random.nextBoolean() ? 3 : 9);
        switch (kind) {
            case 0:
                return drawAsk(random, random.nextBoolean() ? idleAsker(model) : asker);
            case 1:
                return x -> x.give(asker);
            case 2:
                return drawPlan(random, asker);
            case 3:
                return x -> x.take(i);
            case 4:
                int n = random.nextInt(3) == 0 ? 1000 : below(random, 30);
                return x -> x.run(n);
            case 5:
                return x -> x.lose(i);
            case 6:
                return x -> x.twice(i);
            case 7:
                boolean is = random.nextInt(3) == 0;
                return x -> x.down(keeper, is) ? 1 : 0;
            case 8:
                int from = below(random, 9);
                return x -> x.copy(keeper, from);
            default:
                return drawLook(random, i);
        }
    }

    private static int idleAsker(Model model) {
        int asker = 0;
        while (asker < 3 && model.asker(asker, 1) >= 0) {
            asker++;
        }
        return asker;
    }

    private static ToLongFunction<Face> drawAsk(Random random, int asker) {
        int key = random.nextInt(3) == 0 ? below(random, 4) : 0;
        int change = below(random, 7);
        long argument = argument(random, change);
        return x -> x.ask(asker, key, change, argument);
    }

    private static long argument(Random random, int change) {
        if (change == 3) {
            return ((long) random.nextInt(4) << 32) | (random.nextInt() & 0xFFFFFFFFL);
        }
        return random.nextInt(5) == 0 ? random.nextLong() : random.nextInt(20) - 10;
    }

    private static ToLongFunction<Face> drawPlan(Random random, int asker) {
        int which = below(random, 2);
        int set = 1 + below(random, random.nextBoolean() ? 15 : 511);
        int enough = 1 + below(random, Math.max(1, Integer.bitCount(set)));
        return x -> {
            x.plan(asker, which, set, enough);
            return 0;
        };
    }

    private static ToLongFunction<Face> drawLook(Random random, int i) {
        int what = below(random, 6);
        int keeper = below(random, 9);
        int key = below(random, 4);
        int r = below(random, 30);
        switch (random.nextInt(7)) {
            case 0:
                return x -> x.messages();
            case 1:
                return x -> x.message(i, what);
            case 2:
                return x -> x.keeper(keeper, key, what);
            case 3:
                return x -> x.kept(keeper, key);
            case 4:
                return x -> x.asker(key, what);
            case 5:
                return x -> x.request(r, what);
            default:
                return x -> x.result(r);
        }
    }

    /** Mostly a number that there is, sometimes an edge or one that is far away. */
    private static int below(Random random, int end) {
        boolean wild = end <= 0 || random.nextInt(40) == 0;
        return wild ? EDGES[random.nextInt(EDGES.length)] : random.nextInt(end);
    }
}
