/** Promises 15 to 17: asker, request, result; and what each change makes of a state. */
public final class RequestsTest {
    private static final Check CHECK = new Check("RequestsTest");
    private static final int READ = 0;
    private static final int BEGIN = 1;
    private static final int SET = 2;
    private static final int SWAP = 3;
    private static final int ADD = 4;
    private static final int TAKE_AWAY = 5;
    private static final int GREATER = 6;

    public static void main(String[] args) {
        CHECK.test("asker", RequestsTest::asker);
        CHECK.test("request", RequestsTest::request);
        CHECK.test("failedIsToldWhenDone", RequestsTest::failedIsToldWhenDone);
        CHECK.test("readChanges", RequestsTest::readChanges);
        CHECK.test("beginChanges", RequestsTest::beginChanges);
        CHECK.test("setChanges", RequestsTest::setChanges);
        CHECK.test("swapChanges", RequestsTest::swapChanges);
        CHECK.test("addChanges", RequestsTest::addChanges);
        CHECK.test("takeAwayChanges", RequestsTest::takeAwayChanges);
        CHECK.test("greaterChanges", RequestsTest::greaterChanges);
        CHECK.test("keysAreApart", RequestsTest::keysAreApart);
        CHECK.test("refuses", RequestsTest::refuses);
        CHECK.end();
    }

    private static void asker() {
        Story x = new Story();
        x.plan(2, 0, 511, 5);
        x.plan(2, 1, 511, 9);
        x.ask(2, 0, SET, 5L);
        CHECK.due("15: count", x.asker(2, 0), 1);
        CHECK.due("15: request", x.asker(2, 1), 0);
        x.run(9);
        for (int n = 1; n < 5; n++) {
            x.run(1);
            CHECK.due("15: preparing", x.asker(2, 2), 0);
            CHECK.due("15: promised", x.asker(2, 3), n);
        }
        x.run(1);
        CHECK.due("15: accepting", x.asker(2, 2), 1);
        CHECK.due("15: none has taken it", x.asker(2, 3), 0);
        x.run(13);
        for (int n = 1; n < 9; n++) {
            x.run(1);
            CHECK.due("15: taken", x.asker(2, 3), n);
            CHECK.due("15: still accepting", x.asker(2, 2), 1);
        }
        x.run(1);
        CHECK.due("15: done, so no request", x.asker(2, 1), -1);
        CHECK.due("15: nor accepting", x.asker(2, 2), 0);
        CHECK.due("15: nor answers", x.asker(2, 3), 0);
        CHECK.due("15: the count stays", x.asker(2, 0), 1);
        CHECK.due("15: the others have none", x.asker(1, 1), -1);
        CHECK.due("15: nor a count", x.asker(1, 0), 0);
    }

    private static void request() {
        Story x = new Story();
        x.ask(1, 0, SET, -5L);
        for (int i = 0; i < 10; i++) {
            CHECK.due("16: going on", x.request(0, 0), 0);
            CHECK.due("16: not failed", x.request(0, 1), 0);
            CHECK.due("16: no version", x.request(0, 2), -1);
            CHECK.due("16: ballot", x.request(0, 3), 5);
            CHECK.due("17: no value", x.result(0), 0);
            x.run(1);
        }
        x.run(1);
        CHECK.due("16: done", x.request(0, 0), 1);
        CHECK.due("16: version", x.request(0, 2), 1);
        CHECK.due("16: ballot", x.request(0, 3), 5);
        CHECK.due("17: value", x.result(0), -5);
        x.ask(1, 0, SET, 6L);
        x.runAll();
        CHECK.due("17: its own value stays", x.result(0), -5);
        CHECK.due("16: its own version stays", x.request(0, 2), 1);
        CHECK.due("17: that of the next", x.result(1), 6);

        x.ask(1, 0, SET, 7L);
        x.run(6);
        x.give(1);
        CHECK.due("16: lost", x.request(2, 0), 2);
        CHECK.due("16: lost, no version", x.request(2, 2), -1);
        CHECK.due("17: lost, no value", x.result(2), 0);
        CHECK.due("16: lost, ballot", x.request(2, 3), 13);
    }

    private static void failedIsToldWhenDone() {
        Story x = new Story();
        x.ask(0, 0, SET, 5L);
        x.runAll();
        x.ask(0, 0, BEGIN, 9L);
        x.run(6);
        CHECK.due("16: accepting", x.asker(0, 2), 1);
        CHECK.due("16: not told yet", x.request(1, 1), 0);
        x.runAll();
        CHECK.due("16: failed", x.request(1, 1), 1);
        x.ask(0, 0, BEGIN, 9L);
        x.run(6);
        x.give(0);
        x.runAll();
        CHECK.due("16: lost, not told", x.request(2, 1), 0);
    }

    /** Asks and runs to the end; the outcome is looked at, and what keepers 0 to 2 keep then. */
    private static void change(Story x, int change, long argument, int failed, int version, long value) {
        String what = "change " + change + " " + argument;
        int r = x.ask(0, 0, change, argument);
        CHECK.due(what + " runs", x.runAll(), 12);
        CHECK.due(what + " done", x.request(r, 0), 1);
        CHECK.due(what + " failed", x.request(r, 1), failed);
        CHECK.due(what + " version", x.request(r, 2), version);
        CHECK.due(what + " value", x.result(r), value);
        for (int keeper = 0; keeper < 3; keeper++) {
            CHECK.due(what + " kept version", x.keeper(keeper, 0, 2), version);
            CHECK.due(what + " kept value", x.kept(keeper, 0), value);
            CHECK.due(what + " kept ballot", x.keeper(keeper, 0, 1), x.request(r, 3));
        }
    }

    private static long swap(int version, int value) {
        return ((long) version << 32) | (value & 0xFFFFFFFFL);
    }

    private static void readChanges() {
        Story x = new Story();
        change(x, READ, 99L, 0, -1, 0L);
        change(x, SET, 8L, 0, 1, 8L);
        change(x, READ, 99L, 0, 1, 8L);
        change(x, READ, 99L, 0, 1, 8L);
    }

    private static void beginChanges() {
        Story x = new Story();
        change(x, BEGIN, Long.MAX_VALUE, 0, 1, Long.MAX_VALUE);
        change(x, BEGIN, 3L, 1, 1, Long.MAX_VALUE);
        change(x, TAKE_AWAY, 0L, 0, -1, 0L);
        change(x, BEGIN, 0L, 0, 1, 0L);
        change(x, BEGIN, 4L, 1, 1, 0L);
    }

    private static void setChanges() {
        Story x = new Story();
        change(x, SET, Long.MIN_VALUE, 0, 1, Long.MIN_VALUE);
        change(x, SET, 3L, 0, 2, 3L);
        change(x, SET, 3L, 0, 3, 3L);
    }

    private static void swapChanges() {
        Story x = new Story();
        change(x, SWAP, swap(0, 5), 1, -1, 0L);
        change(x, SWAP, swap(-1, 5), 1, -1, 0L);
        change(x, SET, 1L, 0, 1, 1L);
        change(x, SWAP, swap(0, 5), 1, 1, 1L);
        change(x, SWAP, swap(2, 5), 1, 1, 1L);
        change(x, SWAP, swap(1, 5), 0, 2, 5L);
        change(x, SWAP, swap(2, -1), 0, 3, -1L);
        change(x, SWAP, swap(3, Integer.MIN_VALUE), 0, 4, Integer.MIN_VALUE);
        change(x, SWAP, swap(4, Integer.MAX_VALUE), 0, 5, Integer.MAX_VALUE);
        change(x, SWAP, swap(5 | Integer.MIN_VALUE, 7), 1, 5, Integer.MAX_VALUE);
        change(x, TAKE_AWAY, 0L, 0, -1, 0L);
        change(x, SWAP, swap(0, 7), 1, -1, 0L);
        change(x, SWAP, swap(6, 7), 1, -1, 0L);
    }

    private static void addChanges() {
        Story x = new Story();
        change(x, ADD, -7L, 0, 1, -7L);
        change(x, ADD, 10L, 0, 2, 3L);
        change(x, ADD, Long.MAX_VALUE, 0, 3, Long.MIN_VALUE + 2);
        change(x, ADD, Long.MIN_VALUE, 0, 4, 2L);
        change(x, ADD, 0L, 0, 5, 2L);
        change(x, TAKE_AWAY, 0L, 0, -1, 0L);
        change(x, ADD, 5L, 0, 1, 5L);
    }

    private static void takeAwayChanges() {
        Story x = new Story();
        change(x, TAKE_AWAY, 4L, 1, -1, 0L);
        change(x, SET, 4L, 0, 1, 4L);
        change(x, SET, 5L, 0, 2, 5L);
        change(x, TAKE_AWAY, 4L, 0, -1, 0L);
        change(x, TAKE_AWAY, 4L, 1, -1, 0L);
        change(x, SET, 4L, 0, 1, 4L);
    }

    private static void greaterChanges() {
        Story x = new Story();
        change(x, GREATER, -9L, 0, 1, -9L);
        change(x, GREATER, -9L, 1, 1, -9L);
        change(x, GREATER, -10L, 1, 1, -9L);
        change(x, GREATER, Long.MIN_VALUE, 1, 1, -9L);
        change(x, GREATER, -8L, 0, 2, -8L);
        change(x, GREATER, Long.MAX_VALUE, 0, 3, Long.MAX_VALUE);
        change(x, GREATER, Long.MAX_VALUE, 1, 3, Long.MAX_VALUE);
        change(x, TAKE_AWAY, 0L, 0, -1, 0L);
        change(x, GREATER, Long.MIN_VALUE, 0, 1, Long.MIN_VALUE);
    }

    private static void keysAreApart() {
        Story x = new Story();
        for (int asker = 0; asker < 4; asker++) {
            x.ask(asker, asker, ADD, 10L + asker);
        }
        CHECK.due("16: all run", x.runAll(), 48);
        for (int key = 0; key < 4; key++) {
            CHECK.due("16: done", x.request(key, 0), 1);
            CHECK.due("17: value", x.result(key), 10 + key);
            CHECK.due("14: kept", x.kept(1, key), 10 + key);
        }
    }

    private static void refuses() {
        Story x = new Story();
        CHECK.outOfBounds("16: no request", x, s -> s.request(0, 0));
        CHECK.outOfBounds("17: no request", x, s -> s.result(0));
        x.ask(0, 0, SET, 1L);
        for (int wrong : new int[] {-1, 1, 199, 200, 201, Integer.MIN_VALUE, Integer.MAX_VALUE}) {
            CHECK.outOfBounds("16: " + wrong, x, s -> s.request(wrong, 0));
            CHECK.outOfBounds("17: " + wrong, x, s -> s.result(wrong));
        }
        for (int wrong : new int[] {-1, 4, Integer.MIN_VALUE, Integer.MAX_VALUE}) {
            CHECK.outOfBounds("15: " + wrong, x, s -> s.asker(wrong, 0));
            CHECK.outOfBounds("15: what " + wrong, x, s -> s.asker(0, wrong));
            CHECK.outOfBounds("16: what " + wrong, x, s -> s.request(0, wrong));
        }
    }
}
