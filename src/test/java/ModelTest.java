import java.util.Random;

/** Drawn runs of 512 calls, the same ones every time: each answer, and all that can be seen, is the model's. */
public final class ModelTest {
    private static final Check CHECK = new Check("ModelTest");
    private static final int RUNS = 240;
    private static final int CALLS = 512;
    private static final int[] EDGES = {Integer.MIN_VALUE, -2, -1, 0, 1, 2, 3, 4, 5, 6, 7, 8, 9, 10, 199, 200, 299,
        300, 301, 511, 512, 1000, 1001, Integer.MAX_VALUE};

    private static int doneSeen = 0;
    private static int failedSeen = 0;
    private static int lostSeen = 0;
    private static int fullSeen = 0;

    public static void main(String[] args) {
        for (int run = 0; run < RUNS; run++) {
            againstTheModel(run);
        }
        CHECK.due("runs with many that are done", doneSeen > 1000, true);
        CHECK.due("runs with many that failed", failedSeen > 100, true);
        CHECK.due("runs with many that are lost", lostSeen > 1000, true);
        CHECK.due("runs with a full row", fullSeen > 100, true);
        for (int run = 0; run < RUNS; run++) {
            wildArguments(run);
        }
        CHECK.end();
    }

    private static void againstTheModel(int run) {
        Random random = new Random(7919L * run);
        SharedRegisters x = new SharedRegisters();
        Model model = new Model();
        for (int call = 0; call < CALLS; call++) {
            String what = "run " + run + ", call " + call;
            int before = View.requests(x);
            step(what, random, style(run), x, model);
            String got = View.of(x);
            String want = model.view();
            CHECK.same(what + " leaves", got, want);
            CHECK.due(what + ": requests only grow", View.requests(x) >= before, true);
            if (!got.equals(want)) {
                return;
            }
            fullSeen += x.messages() == 300 ? 1 : 0;
        }
        for (int r = 0; r < View.requests(x); r++) {
            doneSeen += x.request(r, 0) == 1 ? 1 : 0;
            failedSeen += x.request(r, 1);
            lostSeen += x.request(r, 0) == 2 ? 1 : 0;
        }
    }

    /** How often, of a hundred: ask, give, plan, take, run, lose, twice, down; the rest is copy. */
    private static int[] style(int run) {
        switch (run % 4) {
            case 0:
                return new int[] {20, 3, 4, 40, 15, 4, 5, 4};
            case 1:
                return new int[] {45, 35, 2, 5, 8, 1, 1, 1};
            case 2:
                return new int[] {20, 8, 4, 12, 0, 0, 54, 1};
            default:
                return new int[] {30, 1, 2, 20, 42, 1, 1, 1};
        }
    }

    private static void step(String what, Random random, int[] style, SharedRegisters x, Model model) {
        int drawn = random.nextInt(100);
        int kind = 0;
        while (kind < style.length && drawn >= style[kind]) {
            drawn -= style[kind];
            kind++;
        }
        int asker = random.nextInt(4);
        boolean any = x.messages() > 0;
        int i = any ? random.nextInt(x.messages()) : 0;
        if (kind == 0) {
            int key = random.nextInt(3) == 0 ? random.nextInt(4) : 0;
            int change = random.nextInt(7);
            long argument = argument(random, change);
            CHECK.due(what + " ask", x.ask(asker, key, change, argument), model.ask(asker, key, change, argument));
        } else if (kind == 1) {
            CHECK.due(what + " give", x.give(asker), model.give(asker));
        } else if (kind == 2) {
            int which = random.nextInt(2);
            int set = 1 + random.nextInt(random.nextBoolean() ? 15 : 511);
            int enough = 1 + random.nextInt(Integer.bitCount(set));
            x.plan(asker, which, set, enough);
            model.plan(asker, which, set, enough);
        } else if (kind == 3 && any) {
            CHECK.due(what + " take", x.take(i), model.take(i));
        } else if (kind == 4) {
            int n = random.nextInt(10) == 0 ? 1000 : random.nextInt(30);
            CHECK.due(what + " run", x.run(n), model.run(n));
        } else if (kind == 5 && any) {
            CHECK.due(what + " lose", x.lose(i), model.lose(i));
        } else if (kind == 6 && any) {
            CHECK.due(what + " twice", x.twice(i), model.twice(i));
        } else if (kind == 7) {
            int keeper = random.nextInt(random.nextBoolean() ? 3 : 9);
            boolean is = random.nextInt(3) == 0;
            CHECK.due(what + " down", x.down(keeper, is), model.down(keeper, is));
        } else if (kind == 8) {
            int to = random.nextInt(9);
            int from = random.nextInt(9);
            CHECK.due(what + " copy", x.copy(to, from), model.copy(to, from));
        }
    }

    private static long argument(Random random, int change) {
        if (change == 3) {
            return ((long) random.nextInt(4) << 32) | (random.nextInt() & 0xFFFFFFFFL);
        }
        return random.nextInt(5) == 0 ? random.nextLong() : random.nextInt(20) - 10;
    }

    /** Whatever the arguments are, only the two exceptions of the document come, thrown by the class itself. */
    private static void wildArguments(int run) {
        Random random = new Random(104729L * run + 1);
        SharedRegisters x = new SharedRegisters();
        for (int call = 0; call < 2 * CALLS; call++) {
            int method = random.nextInt(16);
            try {
                wildCall(x, method, random);
                CHECK.due("wild call", true, true);
            } catch (RuntimeException e) {
                boolean named = e.getClass() == IndexOutOfBoundsException.class
                        || e.getClass() == IllegalArgumentException.class;
                boolean own = e.getStackTrace()[0].getClassName().startsWith("SharedRegisters");
                CHECK.due("wild run " + run + ", method " + method + " threw " + e, named && own, true);
            }
        }
    }

    private static void wildCall(SharedRegisters x, int method, Random random) {
        int a = wild(random);
        int b = wild(random);
        int c = wild(random);
        switch (method) {
            case 0 -> x.ask(a, b, c, random.nextLong());
            case 1 -> x.give(a);
            case 2 -> x.plan(a, b, c, wild(random));
            case 3 -> x.take(a);
            case 4 -> x.run(a);
            case 5 -> x.lose(a);
            case 6 -> x.twice(a);
            case 7 -> x.down(a, random.nextBoolean());
            case 8 -> x.copy(a, b);
            case 9 -> x.messages();
            case 10 -> x.message(a, b);
            case 11 -> x.keeper(a, b, c);
            case 12 -> x.kept(a, b);
            case 13 -> x.asker(a, b);
            case 14 -> x.request(a, b);
            default -> x.result(a);
        }
    }

    private static int wild(Random random) {
        return random.nextInt(3) == 0 ? EDGES[random.nextInt(EDGES.length)] : random.nextInt(4);
    }
}
