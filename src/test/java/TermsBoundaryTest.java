/** The sentences of "Terms" that name a boundary, but for what messages do: each has a test of its own. */
public final class TermsBoundaryTest {
    private static final Check CHECK = new Check("TermsBoundaryTest");
    private static final int MIN = Integer.MIN_VALUE;
    private static final int MAX = Integer.MAX_VALUE;
    private static final int READ = 0;
    private static final int BEGIN = 1;
    private static final int SET = 2;
    private static final int SWAP = 3;
    private static final int ADD = 4;
    private static final int TAKE_AWAY = 5;
    private static final int GREATER = 6;

    public static void main(String[] args) {
        CHECK.test("the512thCall", TermsBoundaryTest::the512thCall);
        CHECK.test("keepers0To8", TermsBoundaryTest::keepers0To8);
        CHECK.test("askers0To3", TermsBoundaryTest::askers0To3);
        CHECK.test("keys0To3", TermsBoundaryTest::keys0To3);
        CHECK.test("promiseAtFirst0", TermsBoundaryTest::promiseAtFirst0);
        CHECK.test("acceptedAtFirst0AndAbsent", TermsBoundaryTest::acceptedAtFirst0AndAbsent);
        CHECK.test("ballotsAbove0", TermsBoundaryTest::ballotsAbove0);
        CHECK.test("countAtFirst0", TermsBoundaryTest::countAtFirst0);
        CHECK.test("planAtFirst", TermsBoundaryTest::planAtFirst);
        CHECK.test("planAsItWas", TermsBoundaryTest::planAsItWas);
        CHECK.test("versionOneMore", TermsBoundaryTest::versionOneMore);
        CHECK.test("versionOneOfAbsent", TermsBoundaryTest::versionOneOfAbsent);
        CHECK.test("valueOfAbsentCountsAs0", TermsBoundaryTest::valueOfAbsentCountsAs0);
        CHECK.test("failedStateIsTheSame", TermsBoundaryTest::failedStateIsTheSame);
        CHECK.test("readStays", TermsBoundaryTest::readStays);
        CHECK.test("beginFailsIfNotAbsent", TermsBoundaryTest::beginFailsIfNotAbsent);
        CHECK.test("setOfAnyValue", TermsBoundaryTest::setOfAnyValue);
        CHECK.test("swapOfAnotherVersion", TermsBoundaryTest::swapOfAnotherVersion);
        CHECK.test("swapHalves", TermsBoundaryTest::swapHalves);
        CHECK.test("addWraps", TermsBoundaryTest::addWraps);
        CHECK.test("takeAwayFailsIfAbsent", TermsBoundaryTest::takeAwayFailsIfAbsent);
        CHECK.test("greaterFailsAtTheValue", TermsBoundaryTest::greaterFailsAtTheValue);
        CHECK.test("countIsOneMore", TermsBoundaryTest::countIsOneMore);
        CHECK.test("sentByTheirNumbers", TermsBoundaryTest::sentByTheirNumbers);
        CHECK.test("sentBehindTheOthers", TermsBoundaryTest::sentBehindTheOthers);
        CHECK.test("prepareWithoutRoom", TermsBoundaryTest::prepareWithoutRoom);
        CHECK.test("acceptWithoutRoom", TermsBoundaryTest::acceptWithoutRoom);
        CHECK.test("answersAtAFullRow", TermsBoundaryTest::answersAtAFullRow);
        CHECK.end();
    }

    private static void the512thCall() {
        CHECK.sentence("An object is used for at most 512 calls after it has been made");
        Story x = new Story();
        for (int n = 1; n <= 200; n++) {
            CHECK.due("ask " + n, x.ask(0, 0, ADD, 1L), n - 1);
            CHECK.due("run " + n, x.runAll(), 12);
        }
        while (x.size() < 511) {
            CHECK.due("call " + x.size(), x.kept(0, 0), 200);
        }
        CHECK.due("the 512th call", x.result(199), 200);
    }

    /** All nine keepers keep 70 for key 0, and the request is done. */
    private static Story nineKeep() {
        Story x = new Story();
        x.plan(0, 0, 511, 9);
        x.plan(0, 1, 511, 9);
        x.change(0, 0, SET, 70L);
        return x;
    }

    private static void keepers0To8() {
        CHECK.sentence("KEEPERS are numbered 0 .. 8");
        for (int there : new int[] {0, 8}) {
            Story x = nineKeep();
            CHECK.due("keeper " + there, x.keeper(there, 0, 1), 4);
            CHECK.due("kept " + there, x.kept(there, 0), 70);
            CHECK.due("down " + there, x.down(there, true), false);
            CHECK.due("down again " + there, x.down(there, false), true);
            CHECK.due("copy to " + there, x.copy(there, 4), 0);
            CHECK.due("copy from " + there, x.copy(4, there), 0);
        }
        Story x = nineKeep();
        for (int none : new int[] {-1, 9, MIN, MAX}) {
            CHECK.outOfBounds("keeper " + none, x, s -> s.keeper(none, 0, 1));
            CHECK.outOfBounds("kept " + none, x, s -> s.kept(none, 0));
            CHECK.outOfBounds("down " + none, x, s -> s.down(none, true));
            CHECK.outOfBounds("copy to " + none, x, s -> s.copy(none, 4));
            CHECK.outOfBounds("copy from " + none, x, s -> s.copy(4, none));
        }
    }

    private static void askers0To3() {
        CHECK.sentence("ASKERS 0 .. 3");
        for (int there : new int[] {0, 3}) {
            Story x = new Story();
            x.plan(there, 0, 1, 1);
            CHECK.due("ask " + there, x.ask(there, 0, SET, 1L), 0);
            CHECK.due("plan " + there, x.messages(), 1);
            CHECK.due("asker " + there, x.asker(there, 0), 1);
            CHECK.due("give " + there, x.give(there), 0);
        }
        Story x = nineKeep();
        for (int none : new int[] {-1, 4, MIN, MAX}) {
            CHECK.outOfBounds("plan " + none, x, s -> s.plan(none, 0, 1, 1));
            CHECK.outOfBounds("ask " + none, x, s -> s.ask(none, 0, SET, 1L));
            CHECK.outOfBounds("asker " + none, x, s -> s.asker(none, 0));
            CHECK.outOfBounds("give " + none, x, s -> s.give(none));
        }
    }

    private static void keys0To3() {
        CHECK.sentence("KEYS 0 .. 3");
        for (int there : new int[] {0, 3}) {
            Story x = new Story();
            CHECK.due("ask " + there, x.change(0, there, SET, 8L), 0);
            CHECK.due("keeper " + there, x.keeper(0, there, 1), 4);
            CHECK.due("kept " + there, x.kept(0, there), 8);
            CHECK.due("no other key", x.kept(0, 3 - there), 0);
            CHECK.due("nor of another keeper", x.keeper(3, there, 1), 0);
        }
        Story x = nineKeep();
        for (int none : new int[] {-1, 4, MIN, MAX}) {
            CHECK.outOfBounds("ask " + none, x, s -> s.ask(0, none, SET, 8L));
            CHECK.outOfBounds("keeper " + none, x, s -> s.keeper(0, none, 1));
            CHECK.outOfBounds("kept " + none, x, s -> s.kept(0, none));
        }
    }

    private static void promiseAtFirst0() {
        CHECK.sentence("For each KEY a KEEPER has a PROMISE (a BALLOT, at first 0)");
        Story x = new Story();
        for (int keeper = 0; keeper < 9; keeper++) {
            for (int key = 0; key < 4; key++) {
                CHECK.due("promise", x.keeper(keeper, key, 0), 0);
            }
        }
        x.planOne(0, 8).ask(0, 3, READ, 0L);
        x.take(0);
        CHECK.due("the least BALLOT, 4, is promised", x.keeper(8, 3, 0), 4);
        CHECK.due("for that KEY alone", x.keeper(8, 2, 0), 0);
        CHECK.due("by that KEEPER alone", x.keeper(7, 3, 0), 0);
    }

    private static void acceptedAtFirst0AndAbsent() {
        CHECK.sentence("what it ACCEPTED: a BALLOT (at first 0) with a STATE (at first absent)");
        Story x = new Story();
        for (int keeper = 0; keeper < 9; keeper++) {
            for (int key = 0; key < 4; key++) {
                CHECK.due("ballot", x.keeper(keeper, key, 1), 0);
                CHECK.due("version", x.keeper(keeper, key, 2), -1);
                CHECK.due("value", x.kept(keeper, key), 0);
            }
        }
        x.planOne(0, 8).ask(0, 3, READ, 0L);
        x.take(0);
        CHECK.message("PROMISED tells that", x, 0, 1, 0, 8, 0, 0, -1);
    }

    private static void ballotsAbove0() {
        CHECK.sentence("BALLOTS are ints above 0: 4 times a count, and the ASKER's number");
        for (int asker = 0; asker < 4; asker++) {
            Story x = new Story();
            for (int n = 0; n < 200; n++) {
                x.ask(asker, 0, READ, 0L);
                x.give(asker);
            }
            CHECK.due("the least of ASKER " + asker, x.request(0, 3), 4 + asker);
            CHECK.due("the next one", x.request(1, 3), 8 + asker);
            CHECK.due("the greatest of ASKER " + asker, x.request(199, 3), 800 + asker);
            CHECK.due("its count", x.asker(asker, 0), 200);
        }
    }

    private static void countAtFirst0() {
        CHECK.sentence("An ASKER has a count (at first 0)");
        Story x = new Story();
        for (int asker = 0; asker < 4; asker++) {
            CHECK.due("count", x.asker(asker, 0), 0);
        }
    }

    private static void planAtFirst() {
        CHECK.sentence("at first KEEPERS 0, 1, 2, and 2 of them, for both");
        for (int asker = 0; asker < 4; asker++) {
            Story x = new Story();
            x.ask(asker, 0, SET, 5L);
            CHECK.due("PREPARE is sent to three", x.messages(), 3);
            for (int i = 0; i < 3; i++) {
                CHECK.message("PREPARE", x, i, 0, asker, i);
            }
            x.run(4);
            CHECK.due("one that PROMISED is not enough", x.asker(asker, 2), 0);
            CHECK.due("it counts", x.asker(asker, 3), 1);
            x.run(1);
            CHECK.due("two are", x.asker(asker, 2), 1);
            CHECK.due("ACCEPT is sent to three", x.messages(), 4);
            for (int i = 0; i < 3; i++) {
                CHECK.message("ACCEPT", x, 1 + i, 2, asker, i);
            }
            x.run(5);
            CHECK.due("one TAKEN is not enough", x.request(0, 0), 0);
            CHECK.due("it counts", x.asker(asker, 3), 1);
            x.run(1);
            CHECK.due("two are", x.request(0, 0), 1);
        }
    }

    private static void planAsItWas() {
        CHECK.sentence("and the PLAN as it was when it began");
        Story x = new Story();
        x.ask(0, 0, SET, 5L);
        x.plan(0, 0, 511, 9);
        x.plan(0, 1, 256, 1);
        x.run(5);
        CHECK.due("two that PROMISED are enough yet", x.asker(0, 2), 1);
        CHECK.message("ACCEPT to the KEEPERS that were planned", x, 1, 2, 0, 0);
        CHECK.message("the last one", x, 3, 2, 0, 2);
        x.plan(0, 1, 7, 1);
        x.run(5);
        CHECK.due("one TAKEN is not enough yet", x.request(0, 0), 0);
        x.run(1);
        CHECK.due("two are", x.request(0, 0), 1);
        x.runAll();
        x.ask(0, 0, SET, 6L);
        CHECK.due("the next one is of the new PLAN", x.messages(), 9);
        x.run(17);
        CHECK.due("eight that PROMISED are not enough", x.asker(0, 2), 0);
        x.run(1);
        CHECK.due("nine are", x.asker(0, 2), 1);
        x.run(3);
        CHECK.due("none has TAKEN", x.request(1, 0), 0);
        x.run(1);
        CHECK.due("one TAKEN is enough", x.request(1, 0), 1);
    }

    /** Asks and runs to the end; looks at the outcome, and at what KEEPER 2 keeps then. */
    private static void change(Story x, int change, long argument, boolean failed, int version, long value) {
        String what = "CHANGE " + change + " " + argument;
        int r = x.ask(0, 0, change, argument);
        CHECK.due(what + " runs", x.runAll(), 12);
        CHECK.due(what + " is DONE", x.request(r, 0), 1);
        CHECK.due(what + " FAILED", x.request(r, 1), failed ? 1 : 0);
        CHECK.due(what + " VERSION", x.request(r, 2), version);
        CHECK.due(what + " VALUE", x.result(r), value);
        CHECK.due(what + " VERSION kept", x.keeper(2, 0, 2), version);
        CHECK.due(what + " VALUE kept", x.kept(2, 0), value);
        CHECK.due(what + " BALLOT kept", x.keeper(2, 0, 1), 4 * (r + 1));
    }

    private static long swap(int version, int value) {
        return ((long) version << 32) | (value & 0xFFFFFFFFL);
    }

    private static void versionOneMore() {
        CHECK.sentence("all but those that FAIL make the VERSION one more");
        Story x = new Story();
        change(x, SET, 5L, false, 1, 5L);
        change(x, SET, 5L, false, 2, 5L);
        change(x, SWAP, swap(2, 5), false, 3, 5L);
        change(x, ADD, 0L, false, 4, 5L);
        change(x, GREATER, 6L, false, 5, 6L);
        change(x, GREATER, 6L, true, 5, 6L);
        change(x, BEGIN, 6L, true, 5, 6L);
        change(x, SWAP, swap(4, 5), true, 5, 6L);
        Story far = new Story();
        for (int n = 0; n < 200; n++) {
            far.change(0, 0, SET, n);
        }
        CHECK.due("the VERSION of the 200th", far.request(199, 2), 200);
    }

    private static void versionOneOfAbsent() {
        CHECK.sentence("it is 1 of one that was absent");
        for (int change : new int[] {BEGIN, SET, ADD, GREATER}) {
            Story x = new Story();
            change(x, change, 5L, false, 1, 5L);
            change(x, SET, 6L, false, 2, 6L);
            change(x, SET, 7L, false, 3, 7L);
            change(x, TAKE_AWAY, 0L, false, -1, 0L);
            change(x, change, 5L, false, 1, 5L);
        }
    }

    private static void valueOfAbsentCountsAs0() {
        CHECK.sentence("whose VALUE counts as 0");
        Story x = new Story();
        change(x, ADD, -3L, false, 1, -3L);
        change(x, TAKE_AWAY, 0L, false, -1, 0L);
        change(x, ADD, 4L, false, 1, 4L);
        change(x, TAKE_AWAY, 0L, false, -1, 0L);
        change(x, ADD, 0L, false, 1, 0L);
    }

    private static void failedStateIsTheSame() {
        CHECK.sentence("those that FAIL (the STATE is the same then)");
        Story absent = new Story();
        change(absent, SWAP, swap(0, 9), true, -1, 0L);
        change(absent, TAKE_AWAY, 9L, true, -1, 0L);
        Story there = new Story();
        change(there, SET, -8L, false, 1, -8L);
        change(there, BEGIN, 9L, true, 1, -8L);
        change(there, SWAP, swap(2, 9), true, 1, -8L);
        change(there, GREATER, -9L, true, 1, -8L);
    }

    private static void readStays() {
        CHECK.sentence("0 READ: the STATE stays, also its VERSION, or absence");
        Story x = new Story();
        change(x, READ, 9L, false, -1, 0L);
        change(x, SET, 4L, false, 1, 4L);
        change(x, READ, 9L, false, 1, 4L);
        change(x, TAKE_AWAY, 0L, false, -1, 0L);
        change(x, READ, 9L, false, -1, 0L);
    }

    private static void beginFailsIfNotAbsent() {
        CHECK.sentence("1 BEGIN v: FAILS, if it is not absent; else the VALUE is v");
        for (long v : new long[] {0L, -1L, Long.MIN_VALUE, Long.MAX_VALUE}) {
            Story x = new Story();
            change(x, BEGIN, v, false, 1, v);
            change(x, BEGIN, v, true, 1, v);
            change(x, BEGIN, 5L, true, 1, v);
            change(x, TAKE_AWAY, 0L, false, -1, 0L);
            change(x, BEGIN, 5L, false, 1, 5L);
        }
    }

    private static void setOfAnyValue() {
        CHECK.sentence("2 SET v");
        Story x = new Story();
        change(x, SET, Long.MAX_VALUE, false, 1, Long.MAX_VALUE);
        change(x, SET, Long.MIN_VALUE, false, 2, Long.MIN_VALUE);
        change(x, SET, -1L, false, 3, -1L);
        change(x, SET, 0L, false, 4, 0L);
    }

    private static void swapOfAnotherVersion() {
        CHECK.sentence("SWAP v: FAILS if it is absent, or of another VERSION");
        Story x = new Story();
        for (int version : new int[] {-1, 0, 1}) {
            change(x, SWAP, swap(version, 9), true, -1, 0L);
        }
        change(x, SET, 5L, false, 1, 5L);
        change(x, SET, 6L, false, 2, 6L);
        for (int other : new int[] {1, 3, 0, -1, -2, 2 | MIN, MIN, MAX}) {
            change(x, SWAP, swap(other, 9), true, 2, 6L);
        }
        change(x, SWAP, swap(2, 9), false, 3, 9L);
        change(x, SWAP, swap(2, 10), true, 3, 9L);
        change(x, TAKE_AWAY, 0L, false, -1, 0L);
        for (int version : new int[] {0, 3, 4}) {
            change(x, SWAP, swap(version, 9), true, -1, 0L);
        }
    }

    private static void swapHalves() {
        CHECK.sentence("the ARGUMENT's highest 32 bits are a VERSION, the lowest 32, with sign, a VALUE");
        Story x = new Story();
        change(x, SET, Long.MAX_VALUE, false, 1, Long.MAX_VALUE);
        change(x, SWAP, 0x0000_0001_0000_0000L, false, 2, 0L);
        change(x, SWAP, 0x0000_0002_7FFF_FFFFL, false, 3, 2147483647L);
        change(x, SWAP, 0x0000_0003_8000_0000L, false, 4, -2147483648L);
        change(x, SWAP, 0x0000_0004_FFFF_FFFFL, false, 5, -1L);
        change(x, SWAP, 0x8000_0005_0000_0001L, true, 5, -1L);
        change(x, SWAP, 0x0000_0005_0000_0001L, false, 6, 1L);
    }

    private static void addWraps() {
        CHECK.sentence("4 ADD v (wrapping)");
        Story x = new Story();
        change(x, ADD, Long.MAX_VALUE, false, 1, Long.MAX_VALUE);
        change(x, ADD, 1L, false, 2, Long.MIN_VALUE);
        change(x, ADD, -1L, false, 3, Long.MAX_VALUE);
        change(x, ADD, Long.MAX_VALUE, false, 4, -2L);
        change(x, ADD, Long.MIN_VALUE, false, 5, Long.MAX_VALUE - 1);
        change(x, ADD, 1L, false, 6, Long.MAX_VALUE);
    }

    private static void takeAwayFailsIfAbsent() {
        CHECK.sentence("5 TAKE AWAY: FAILS if it is absent; else it is absent then");
        Story x = new Story();
        change(x, TAKE_AWAY, 7L, true, -1, 0L);
        change(x, SET, 0L, false, 1, 0L);
        change(x, TAKE_AWAY, 7L, false, -1, 0L);
        change(x, TAKE_AWAY, 7L, true, -1, 0L);
    }

    private static void greaterFailsAtTheValue() {
        CHECK.sentence("6 GREATER v: FAILS if it is not absent, and its VALUE is v or more; else SET v");
        for (long v : new long[] {5L, 0L, -5L, 1L << 32, Long.MAX_VALUE - 1, Long.MIN_VALUE + 1}) {
            Story x = new Story();
            change(x, GREATER, v, false, 1, v);
            change(x, GREATER, v, true, 1, v);
            change(x, GREATER, v - 1, true, 1, v);
            change(x, GREATER, v + 1, false, 2, v + 1);
            change(x, GREATER, v, true, 2, v + 1);
        }
        Story least = new Story();
        change(least, GREATER, Long.MIN_VALUE, false, 1, Long.MIN_VALUE);
        change(least, GREATER, Long.MIN_VALUE, true, 1, Long.MIN_VALUE);
        change(least, GREATER, Long.MAX_VALUE, false, 2, Long.MAX_VALUE);
        change(least, GREATER, Long.MIN_VALUE, true, 2, Long.MAX_VALUE);
        change(least, TAKE_AWAY, 0L, false, -1, 0L);
        change(least, GREATER, -1L, false, 1, -1L);
    }

    private static void countIsOneMore() {
        CHECK.sentence("A REQUEST begins: the count is one more, its BALLOT is of that");
        Story x = new Story();
        x.ask(2, 0, READ, 0L);
        CHECK.due("count", x.asker(2, 0), 1);
        CHECK.due("ballot", x.request(0, 3), 6);
        CHECK.message("PREPARE tells it", x, 0, 0, 2, 0, 0, 6, -1);
        x.give(2);
        x.ask(2, 1, READ, 0L);
        CHECK.due("count", x.asker(2, 0), 2);
        CHECK.due("ballot", x.request(1, 3), 10);
        CHECK.due("that of the one before stays", x.request(0, 3), 6);
        CHECK.due("the others' counts stay", x.asker(1, 0), 0);
    }

    private static void sentByTheirNumbers() {
        CHECK.sentence("a PREPARE (KEY, BALLOT) is sent to each KEEPER of the set, by their numbers");
        for (int set : new int[] {1, 256, 257, 0b010101010, 511}) {
            Story x = new Story();
            x.plan(1, 0, set, 1);
            x.ask(1, 0, READ, 0L);
            int i = 0;
            for (int keeper = 0; keeper < 9; keeper++) {
                if ((set >> keeper & 1) == 1) {
                    CHECK.message("set " + set, x, i, 0, 1, keeper, 0, 5, -1);
                    i++;
                }
            }
            CHECK.due("no more of set " + set, x.messages(), i);
        }
    }

    private static void sentBehindTheOthers() {
        CHECK.sentence("MESSAGES lie in a row, those sent behind the others");
        Story x = new Story();
        x.ask(0, 0, SET, 1L);
        x.ask(1, 1, SET, 2L);
        CHECK.message("the first of the first", x, 0, 0, 0, 0);
        CHECK.message("the first of the second", x, 3, 0, 1, 0);
        x.take(5);
        CHECK.message("an answer", x, 5, 1, 1, 2);
        x.take(0);
        CHECK.message("the answer moves up", x, 4, 1, 1, 2);
        CHECK.message("the next answer", x, 5, 1, 0, 0);
        x.twice(2);
        CHECK.message("one that comes again", x, 6, 0, 1, 0);
    }

    private static void prepareWithoutRoom() {
        CHECK.sentence("at most 300; one that has no room is lost: PREPARE");
        for (int room = 0; room <= 4; room++) {
            Story x = new Story();
            x.ask(0, 0, READ, 0L);
            x.fill(0, 300 - room);
            CHECK.due("room " + room, x.ask(1, 0, READ, 0L), 1);
            int sent = Math.min(room, 3);
            CHECK.due("room " + room + ": there are", x.messages(), 300 - room + sent);
            for (int i = 0; i < sent; i++) {
                CHECK.message("room " + room, x, 300 - room + i, 0, 1, i, 1, 5, -1);
            }
            CHECK.message("room " + room + ": the one before", x, 299 - room, 0, 0, 0, 0);
            CHECK.due("room " + room + ": it goes on", x.request(1, 0), 0);
            CHECK.due("room " + room + ": its count", x.asker(1, 0), 1);
        }
    }

    private static void acceptWithoutRoom() {
        CHECK.sentence("at most 300; one that has no room is lost: ACCEPT");
        for (int there = 296; there <= 300; there++) {
            Story x = new Story();
            x.ask(0, 0, SET, 5L);
            x.take(0);
            x.take(0);
            x.take(1);
            CHECK.message("the PROMISED that is enough", x, 1, 1, 0, 1);
            x.fill(0, there);
            x.take(1);
            int sent = Math.min(300 - (there - 1), 3);
            CHECK.due(there + " before: there are", x.messages(), there - 1 + sent);
            CHECK.due(there + " before: it is ACCEPTING", x.asker(0, 2), 1);
            for (int i = 0; i < sent; i++) {
                CHECK.message(there + " before", x, there - 1 + i, 2, 0, i, 0, 4, 1);
            }
        }
    }

    private static void answersAtAFullRow() {
        CHECK.sentence("at most 300: a MESSAGE that is taken leaves room for the one that is sent back");
        Story x = new Story();
        x.ask(0, 0, SET, 5L);
        x.fill(2, 300);
        x.take(0);
        CHECK.due("PREPARE is taken: there are", x.messages(), 300);
        CHECK.message("PROMISED", x, 299, 1, 0, 0);
        x.take(0);
        CHECK.message("PROMISED", x, 299, 1, 0, 1);
        x.take(0);
        x.take(0);
        CHECK.due("PREPARE comes again: there are", x.messages(), 300);
        CHECK.message("REFUSED", x, 299, 4, 0, 2);
        x.take(296);
        CHECK.due("PROMISED is taken: there are", x.messages(), 299);
        x.take(296);
        CHECK.due("with enough: there are", x.messages(), 300);
        CHECK.message("ACCEPT", x, 298, 2, 0, 0);
        x.take(298);
        CHECK.due("ACCEPT is taken: there are", x.messages(), 300);
        CHECK.message("TAKEN", x, 299, 3, 0, 0);
    }
}
