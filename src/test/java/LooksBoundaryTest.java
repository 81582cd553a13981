/** Promises 11 to 17, the looks: each boundary that they name has a test of its own. */
public final class LooksBoundaryTest {
    private static final Check CHECK = new Check("LooksBoundaryTest");
    private static final int MIN = Integer.MIN_VALUE;
    private static final int MAX = Integer.MAX_VALUE;
    private static final int READ = 0;
    private static final int BEGIN = 1;
    private static final int SET = 2;
    private static final int TAKE_AWAY = 5;

    public static void main(String[] args) {
        CHECK.test("messagesFrom0To300", LooksBoundaryTest::messagesFrom0To300);
        CHECK.test("messageParts", LooksBoundaryTest::messageParts);
        CHECK.test("messageBallots", LooksBoundaryTest::messageBallots);
        CHECK.test("messageVersions", LooksBoundaryTest::messageVersions);
        CHECK.test("messageOutOfBounds", LooksBoundaryTest::messageOutOfBounds);
        CHECK.test("messageWhat", LooksBoundaryTest::messageWhat);
        CHECK.test("keeperParts", LooksBoundaryTest::keeperParts);
        CHECK.test("keeperOutOfBounds", LooksBoundaryTest::keeperOutOfBounds);
        CHECK.test("keptOfAbsent", LooksBoundaryTest::keptOfAbsent);
        CHECK.test("keptExtremes", LooksBoundaryTest::keptExtremes);
        CHECK.test("keptOutOfBounds", LooksBoundaryTest::keptOutOfBounds);
        CHECK.test("askerParts", LooksBoundaryTest::askerParts);
        CHECK.test("askerWithoutRequest", LooksBoundaryTest::askerWithoutRequest);
        CHECK.test("askerOutOfBounds", LooksBoundaryTest::askerOutOfBounds);
        CHECK.test("requestEndings", LooksBoundaryTest::requestEndings);
        CHECK.test("requestFailed", LooksBoundaryTest::requestFailed);
        CHECK.test("requestVersion", LooksBoundaryTest::requestVersion);
        CHECK.test("requestBallot", LooksBoundaryTest::requestBallot);
        CHECK.test("requestOutOfBounds", LooksBoundaryTest::requestOutOfBounds);
        CHECK.test("resultOfAbsent", LooksBoundaryTest::resultOfAbsent);
        CHECK.test("resultWhenNotDone", LooksBoundaryTest::resultWhenNotDone);
        CHECK.test("resultOutOfBounds", LooksBoundaryTest::resultOutOfBounds);
        CHECK.test("looksChangeNothing", LooksBoundaryTest::looksChangeNothing);
        CHECK.end();
    }

    private static void messagesFrom0To300() {
        CHECK.sentence("11: How many MESSAGES there are.");
        Story x = new Story();
        CHECK.due("none", x.messages(), 0);
        x.ask(0, 0, SET, 1L);
        CHECK.due("three", x.messages(), 3);
        x.fill(0, 299);
        CHECK.due("299", x.messages(), 299);
        x.twice(0);
        CHECK.due("300", x.messages(), 300);
        x.ask(1, 0, SET, 1L);
        CHECK.due("no more", x.messages(), 300);
        x.lose(0);
        CHECK.due("one less", x.messages(), 299);
    }

    private static void messageParts() {
        CHECK.sentence("12: Of MESSAGE i: its sort, the ASKER, the KEEPER, the REQUEST's number");
        Story x = new Story();
        x.ask(0, 0, READ, 0L);
        x.planOne(3, 8).ask(3, 3, SET, 1L);
        CHECK.message("the first", x, 0, 0, 0, 0, 0);
        CHECK.message("PREPARE", x, 3, 0, 3, 8, 1);
        x.take(3);
        CHECK.message("PROMISED", x, 3, 1, 3, 8, 1);
        x.take(3);
        CHECK.message("ACCEPT", x, 3, 2, 3, 8, 1);
        x.take(3);
        CHECK.message("TAKEN", x, 3, 3, 3, 8, 1);
        x.take(3);
        x.planOne(2, 8).ask(2, 3, SET, 1L);
        x.take(3);
        CHECK.message("REFUSED", x, 3, 4, 2, 8, 2);
    }

    private static void messageBallots() {
        CHECK.sentence("12: its BALLOT (4; of REFUSED what it tells; of PROMISED that which was ACCEPTED)");
        Story x = new Story();
        x.planOne(1, 0).planOne(0, 0).planOne(2, 0);
        x.ask(1, 0, SET, 1L);
        CHECK.due("PREPARE", x.message(0, 4), 5);
        x.take(0);
        CHECK.due("PROMISED, nothing ACCEPTED", x.message(0, 4), 0);
        x.take(0);
        CHECK.due("ACCEPT", x.message(0, 4), 5);
        x.take(0);
        CHECK.due("TAKEN", x.message(0, 4), 5);
        x.take(0);
        x.ask(2, 0, SET, 1L);
        x.take(0);
        CHECK.due("PROMISED, 5 ACCEPTED", x.message(0, 4), 5);
        x.ask(0, 0, SET, 1L);
        x.take(1);
        CHECK.due("REFUSED, of 4, tells 6", x.message(1, 4), 6);
        CHECK.due("which is no BALLOT of its REQUEST", x.request(x.message(1, 3), 3), 4);
    }

    private static void messageVersions() {
        CHECK.sentence("12: the VERSION of the STATE that it tells (5; NONE when it is absent, or none is told)");
        Story x = new Story();
        x.planOne(0, 0).planOne(1, 0);
        x.ask(0, 0, SET, 1L);
        CHECK.due("PREPARE tells none", x.message(0, 5), -1);
        x.take(0);
        CHECK.due("PROMISED tells an absent one", x.message(0, 5), -1);
        x.take(0);
        CHECK.due("ACCEPT tells the new one", x.message(0, 5), 1);
        x.take(0);
        CHECK.due("TAKEN tells none", x.message(0, 5), -1);
        x.take(0);
        x.ask(0, 0, TAKE_AWAY, 0L);
        CHECK.due("PREPARE tells none", x.message(0, 5), -1);
        x.take(0);
        CHECK.due("PROMISED tells what was ACCEPTED", x.message(0, 5), 1);
        x.take(0);
        CHECK.due("ACCEPT tells an absent one", x.message(0, 5), -1);
        x.ask(1, 0, READ, 0L);
        x.take(1);
        CHECK.due("REFUSED tells none", x.message(1, 5), -1);
    }

    private static Story rowOf(int many) {
        Story x = new Story();
        x.ask(0, 0, SET, 5L);
        for (int n = 3; n > many; n--) {
            x.lose(0);
        }
        return many > 3 ? x.fill(0, many) : x;
    }

    private static void messageOutOfBounds() {
        CHECK.sentence("12: IndexOutOfBoundsException: there is none such");
        for (int many : new int[] {0, 1, 3, 299, 300}) {
            Story x = rowOf(many);
            CHECK.outOfBounds("before the first of " + many, x, s -> s.message(-1, 0));
            CHECK.outOfBounds("behind the last of " + many, x, s -> s.message(many, 0));
            if (many > 0) {
                CHECK.due("the first of " + many, x.message(0, 0), 0);
                CHECK.due("the last of " + many, x.message(many - 1, 0), 0);
            }
        }
        Story gone = rowOf(3);
        gone.lose(2);
        CHECK.outOfBounds("one that was lost", gone, s -> s.message(2, 0));
        for (int none : new int[] {299, 300, 301, MIN, MAX}) {
            CHECK.outOfBounds("MESSAGE " + none, gone, s -> s.message(none, 0));
        }
    }

    private static void messageWhat() {
        CHECK.sentence("12: IndexOutOfBoundsException: or another what");
        Story x = rowOf(3);
        CHECK.due("what 0", x.message(1, 0), 0);
        CHECK.due("what 5", x.message(1, 5), -1);
        for (int none : new int[] {-1, 6, MIN, MAX}) {
            CHECK.outOfBounds("what " + none, x, s -> s.message(1, none));
            CHECK.outOfBounds("both", x, s -> s.message(3, none));
        }
    }

    private static void keeperParts() {
        CHECK.sentence("13: the PROMISE, the BALLOT that it ACCEPTED, the VERSION (2; NONE when absent).");
        Story x = new Story();
        x.planOne(3, 8);
        x.ask(3, 3, SET, 1L);
        x.take(0);
        keeper(x, 7, 0, -1);
        x.run(2);
        keeper(x, 0, 7, 1);
        x.run(1);
        x.ask(3, 3, TAKE_AWAY, 0L);
        x.take(0);
        keeper(x, 11, 7, 1);
        x.runAll();
        keeper(x, 0, 11, -1);
    }

    private static void keeper(Story x, int promise, int ballot, int version) {
        CHECK.due("promise", x.keeper(8, 3, 0), promise);
        CHECK.due("ballot", x.keeper(8, 3, 1), ballot);
        CHECK.due("version", x.keeper(8, 3, 2), version);
    }

    private static void keeperOutOfBounds() {
        CHECK.sentence("13: IndexOutOfBoundsException: there is none such, or another what.");
        Story x = new Story();
        x.change(0, 0, SET, 1L);
        CHECK.due("the first, what 0", x.keeper(0, 0, 0), 0);
        CHECK.due("the first, what 2", x.keeper(0, 0, 2), 1);
        CHECK.due("the last, what 2", x.keeper(8, 3, 2), -1);
        for (int none : new int[] {-1, 9, MIN, MAX}) {
            CHECK.outOfBounds("KEEPER " + none, x, s -> s.keeper(none, 0, 0));
        }
        for (int none : new int[] {-1, 4, MIN, MAX}) {
            CHECK.outOfBounds("KEY " + none, x, s -> s.keeper(0, none, 0));
            CHECK.outOfBounds("KEY " + none + " of another", x, s -> s.keeper(4, none, 0));
        }
        for (int none : new int[] {-1, 3, MIN, MAX}) {
            CHECK.outOfBounds("what " + none, x, s -> s.keeper(0, 0, none));
        }
    }

    private static void keptOfAbsent() {
        CHECK.sentence("14: The VALUE that a KEEPER ACCEPTED for a KEY; 0 when it is absent.");
        Story x = new Story();
        CHECK.due("nothing ACCEPTED", x.kept(0, 0), 0);
        x.ask(0, 0, SET, 8L);
        x.run(6);
        CHECK.due("PROMISED, not ACCEPTED", x.kept(0, 0), 0);
        x.run(1);
        CHECK.due("ACCEPTED", x.kept(0, 0), 8);
        CHECK.due("not by another one yet", x.kept(1, 0), 0);
        x.runAll();
        x.change(0, 0, TAKE_AWAY, 0L);
        CHECK.due("taken away", x.kept(0, 0), 0);
    }

    private static void keptExtremes() {
        CHECK.sentence("14: The VALUE (a long)");
        for (long value : new long[] {Long.MIN_VALUE, Long.MAX_VALUE, -1L, 1L << 32, -(1L << 31) - 1}) {
            Story x = new Story();
            int r = x.change(0, 3, SET, value);
            CHECK.due("kept", x.kept(2, 3), value);
            CHECK.due("result", x.result(r), value);
        }
    }

    private static void keptOutOfBounds() {
        CHECK.sentence("14: IndexOutOfBoundsException: there is none such.");
        Story x = new Story();
        x.plan(0, 1, 511, 9);
        x.change(0, 0, SET, 1L);
        x.change(0, 3, SET, 2L);
        CHECK.due("the first", x.kept(0, 0), 1);
        CHECK.due("the last", x.kept(8, 3), 2);
        for (int none : new int[] {-1, 9, MIN, MAX}) {
            CHECK.outOfBounds("KEEPER " + none, x, s -> s.kept(none, 0));
        }
        for (int none : new int[] {-1, 4, MIN, MAX}) {
            CHECK.outOfBounds("KEY " + none, x, s -> s.kept(0, none));
            CHECK.outOfBounds("KEY " + none + " of another", x, s -> s.kept(4, none));
        }
    }

    private static void askerParts() {
        CHECK.sentence("15: its count, the number of its REQUEST, whether that is ACCEPTING, how many answered");
        Story x = new Story();
        x.ask(0, 0, READ, 0L);
        x.plan(3, 0, 511, 9);
        x.plan(3, 1, 511, 9);
        x.ask(3, 1, SET, 1L);
        x.lose(0);
        x.lose(0);
        x.lose(0);
        asker(x, 1, 1, 0, 0);
        x.run(9 + 8);
        asker(x, 1, 1, 0, 8);
        x.run(1);
        asker(x, 1, 1, 1, 0);
        x.run(9 + 8);
        asker(x, 1, 1, 1, 8);
        x.run(1);
        asker(x, 1, -1, 0, 0);
    }

    private static void asker(Story x, int count, int request, int accepting, int answered) {
        CHECK.due("count", x.asker(3, 0), count);
        CHECK.due("request", x.asker(3, 1), request);
        CHECK.due("accepting", x.asker(3, 2), accepting);
        CHECK.due("answered", x.asker(3, 3), answered);
    }

    private static void askerWithoutRequest() {
        CHECK.sentence("15: the number of its REQUEST (1; NONE), .. (2; 1 or 0), .. (3; 0 without one).");
        Story x = new Story();
        asker(x, 0, -1, 0, 0);
        x.ask(3, 0, SET, 1L);
        x.run(4);
        asker(x, 1, 0, 0, 1);
        Story preparing = x.again();
        preparing.give(3);
        asker(preparing, 1, -1, 0, 0);
        x.run(6);
        asker(x, 1, 0, 1, 1);
        Story accepting = x.again();
        accepting.give(3);
        asker(accepting, 1, -1, 0, 0);
        x.run(1);
        asker(x, 1, -1, 0, 0);
    }

    private static void askerOutOfBounds() {
        CHECK.sentence("15: IndexOutOfBoundsException: there is no such ASKER, or another what.");
        Story x = new Story();
        x.ask(0, 0, SET, 1L);
        CHECK.due("the first, what 0", x.asker(0, 0), 1);
        CHECK.due("the last, what 3", x.asker(3, 3), 0);
        for (int none : new int[] {-1, 4, MIN, MAX}) {
            CHECK.outOfBounds("ASKER " + none, x, s -> s.asker(none, 0));
            CHECK.outOfBounds("what " + none, x, s -> s.asker(0, none));
            CHECK.outOfBounds("what " + none + ", without a REQUEST", x, s -> s.asker(3, none));
            CHECK.outOfBounds("both " + none, x, s -> s.asker(none, none));
        }
    }

    private static void requestEndings() {
        CHECK.sentence("16: 0 going on, 1 DONE, 2 LOST (what = 0)");
        Story x = new Story();
        x.ask(0, 0, SET, 1L);
        CHECK.due("PREPARING", x.request(0, 0), 0);
        x.run(5);
        CHECK.due("ACCEPTING", x.request(0, 0), 0);
        Story given = x.again();
        given.give(0);
        CHECK.due("given up", given.request(0, 0), 2);
        x.run(6);
        CHECK.due("DONE", x.request(0, 0), 1);
        Story refused = new Story();
        refused.change(1, 0, SET, 1L);
        refused.change(0, 0, SET, 1L);
        CHECK.due("REFUSED", refused.request(1, 0), 2);
    }

    private static void requestFailed() {
        CHECK.sentence("16: whether its CHANGE FAILED (1; 1 or 0; 0 when it is not DONE)");
        Story x = new Story();
        x.change(0, 0, SET, 1L);
        CHECK.due("DONE, not FAILED", x.request(0, 1), 0);
        x.ask(0, 0, BEGIN, 2L);
        CHECK.due("PREPARING", x.request(1, 1), 0);
        x.run(10);
        CHECK.due("ACCEPTING", x.request(1, 1), 0);
        Story given = x.again();
        given.give(0);
        CHECK.due("LOST", given.request(1, 1), 0);
        given.runAll();
        CHECK.due("LOST for ever", given.request(1, 1), 0);
        x.run(1);
        CHECK.due("DONE", x.request(1, 1), 1);
    }

    private static void requestVersion() {
        CHECK.sentence("16: the VERSION of its STATE (2; NONE when absent, or it is not DONE)");
        Story x = new Story();
        x.ask(0, 0, SET, 1L);
        CHECK.due("PREPARING", x.request(0, 2), -1);
        x.run(10);
        CHECK.due("ACCEPTING", x.request(0, 2), -1);
        Story given = x.again();
        given.give(0);
        CHECK.due("LOST", given.request(0, 2), -1);
        x.run(1);
        CHECK.due("DONE", x.request(0, 2), 1);
        x.runAll();
        x.change(0, 0, TAKE_AWAY, 0L);
        CHECK.due("DONE, absent", x.request(1, 2), -1);
        CHECK.due("the one before stays", x.request(0, 2), 1);
        x.change(0, 0, READ, 0L);
        CHECK.due("DONE, absent still", x.request(2, 2), -1);
    }

    private static void requestBallot() {
        CHECK.sentence("16: its BALLOT (3)");
        Story x = new Story();
        x.change(3, 0, SET, 1L);
        CHECK.due("DONE", x.request(0, 3), 7);
        x.ask(3, 0, SET, 1L);
        CHECK.due("going on", x.request(1, 3), 11);
        x.give(3);
        CHECK.due("LOST", x.request(1, 3), 11);
        CHECK.due("the first one's", x.request(0, 3), 7);
    }

    private static Story askedTimes(int many) {
        Story x = new Story();
        for (int n = 0; n < many; n++) {
            x.ask(0, 0, READ, 0L);
            x.give(0);
        }
        return x;
    }

    private static void requestOutOfBounds() {
        CHECK.sentence("16: IndexOutOfBoundsException: there is none such, or another what.");
        for (int many : new int[] {0, 1, 199, 200}) {
            Story x = askedTimes(many);
            CHECK.outOfBounds("before the first of " + many, x, s -> s.request(-1, 0));
            CHECK.outOfBounds("behind the last of " + many, x, s -> s.request(many, 0));
            if (many > 0) {
                CHECK.due("the first of " + many, x.request(0, 3), 4);
                CHECK.due("the last of " + many, x.request(many - 1, 3), 4 * many);
            }
        }
        Story x = askedTimes(1);
        for (int none : new int[] {2, 199, 200, 201, MIN, MAX}) {
            CHECK.outOfBounds("REQUEST " + none, x, s -> s.request(none, 0));
        }
        for (int none : new int[] {-1, 4, MIN, MAX}) {
            CHECK.outOfBounds("what " + none, x, s -> s.request(0, none));
            CHECK.outOfBounds("both", x, s -> s.request(1, none));
        }
        CHECK.due("what 0", x.request(0, 0), 2);
        CHECK.due("what 3", x.request(0, 3), 4);
    }

    private static void resultOfAbsent() {
        CHECK.sentence("17: The VALUE of the STATE of REQUEST r; 0 when that is absent");
        Story x = new Story();
        x.change(0, 0, READ, 5L);
        CHECK.due("READ of an absent one", x.result(0), 0);
        x.change(0, 0, SET, 6L);
        CHECK.due("SET", x.result(1), 6);
        x.change(0, 0, TAKE_AWAY, 7L);
        CHECK.due("TAKE AWAY", x.result(2), 0);
        x.change(0, 0, TAKE_AWAY, 7L);
        CHECK.due("TAKE AWAY that FAILED", x.result(3), 0);
        CHECK.due("that of SET stays", x.result(1), 6);
    }

    private static void resultWhenNotDone() {
        CHECK.sentence("17: 0 when it is not DONE.");
        Story x = new Story();
        x.change(0, 0, SET, 6L);
        x.ask(0, 0, SET, 7L);
        CHECK.due("PREPARING", x.result(1), 0);
        x.run(4);
        CHECK.due("one PROMISED", x.result(1), 0);
        x.run(6);
        CHECK.due("ACCEPTING", x.result(1), 0);
        Story given = x.again();
        given.give(0);
        CHECK.due("LOST", given.result(1), 0);
        given.runAll();
        CHECK.due("LOST for ever", given.result(1), 0);
        x.run(1);
        CHECK.due("DONE", x.result(1), 7);
    }

    private static void resultOutOfBounds() {
        CHECK.sentence("17: IndexOutOfBoundsException: there is none such.");
        for (int many : new int[] {0, 1, 199, 200}) {
            Story x = askedTimes(many);
            CHECK.outOfBounds("before the first of " + many, x, s -> s.result(-1));
            CHECK.outOfBounds("behind the last of " + many, x, s -> s.result(many));
            if (many > 0) {
                CHECK.due("the first of " + many, x.result(0), 0);
                CHECK.due("the last of " + many, x.result(many - 1), 0);
            }
        }
        Story x = askedTimes(1);
        for (int none : new int[] {2, 199, 200, 201, MIN, MAX}) {
            CHECK.outOfBounds("REQUEST " + none, x, s -> s.result(none));
        }
    }

    private static void looksChangeNothing() {
        CHECK.sentence("Nothing is promised beyond the answers and state changes described: looks change nothing");
        Story x = new Story();
        x.change(0, 0, SET, 5L);
        x.ask(1, 1, SET, 6L);
        x.run(4);
        Story looked = x.again();
        looked.messages();
        looked.message(0, 0);
        looked.keeper(0, 0, 0);
        looked.kept(0, 0);
        looked.asker(1, 3);
        looked.request(0, 2);
        looked.result(0);
        CHECK.same("what is seen", looked.view(), x.view());
        CHECK.same("what comes later", Future.of(looked), Future.of(x));
    }
}
