/** Promises 1 to 10, and what is said of all methods: each boundary that they name has a test of its own. */
public final class CallsBoundaryTest {
    private static final Check CHECK = new Check("CallsBoundaryTest");
    private static final int MIN = Integer.MIN_VALUE;
    private static final int MAX = Integer.MAX_VALUE;
    private static final int READ = 0;
    private static final int SET = 2;
    private static final int TAKE_AWAY = 5;

    public static void main(String[] args) {
        CHECK.test("newObjectIsEmpty", CallsBoundaryTest::newObjectIsEmpty);
        CHECK.test("askNumbers", CallsBoundaryTest::askNumbers);
        CHECK.test("askNoneWhenTheAskerHasOne", CallsBoundaryTest::askNoneWhenTheAskerHasOne);
        CHECK.test("askNoneWhenThereWere200", CallsBoundaryTest::askNoneWhenThereWere200);
        CHECK.test("askOutOfBounds", CallsBoundaryTest::askOutOfBounds);
        CHECK.test("askIllegal", CallsBoundaryTest::askIllegal);
        CHECK.test("askFirstNamed", CallsBoundaryTest::askFirstNamed);
        CHECK.test("giveNone", CallsBoundaryTest::giveNone);
        CHECK.test("giveOutOfBounds", CallsBoundaryTest::giveOutOfBounds);
        CHECK.test("planFromNowOn", CallsBoundaryTest::planFromNowOn);
        CHECK.test("planOutOfBounds", CallsBoundaryTest::planOutOfBounds);
        CHECK.test("planSet", CallsBoundaryTest::planSet);
        CHECK.test("planEnough", CallsBoundaryTest::planEnough);
        CHECK.test("planFirstNamed", CallsBoundaryTest::planFirstNamed);
        CHECK.test("takeFirstAndLast", CallsBoundaryTest::takeFirstAndLast);
        CHECK.test("takeOutOfBounds", CallsBoundaryTest::takeOutOfBounds);
        CHECK.test("runAsFarAsThereAre", CallsBoundaryTest::runAsFarAsThereAre);
        CHECK.test("runIllegal", CallsBoundaryTest::runIllegal);
        CHECK.test("loseFirstAndLast", CallsBoundaryTest::loseFirstAndLast);
        CHECK.test("loseOutOfBounds", CallsBoundaryTest::loseOutOfBounds);
        CHECK.test("twiceAtTheEnd", CallsBoundaryTest::twiceAtTheEnd);
        CHECK.test("twiceNone", CallsBoundaryTest::twiceNone);
        CHECK.test("twiceOutOfBounds", CallsBoundaryTest::twiceOutOfBounds);
        CHECK.test("downWas", CallsBoundaryTest::downWas);
        CHECK.test("downKeeps", CallsBoundaryTest::downKeeps);
        CHECK.test("downOutOfBounds", CallsBoundaryTest::downOutOfBounds);
        CHECK.test("copyGreaterOnly", CallsBoundaryTest::copyGreaterOnly);
        CHECK.test("copyPromise", CallsBoundaryTest::copyPromise);
        CHECK.test("copyHowManyKeys", CallsBoundaryTest::copyHowManyKeys);
        CHECK.test("copyItself", CallsBoundaryTest::copyItself);
        CHECK.test("copyOutOfBounds", CallsBoundaryTest::copyOutOfBounds);
        CHECK.end();
    }

    /** A little of all: accepted, promised, under way, and asker 1 with a request. */
    private static Story some() {
        Story x = new Story();
        x.change(0, 0, SET, 5L);
        x.ask(1, 1, SET, 6L);
        x.run(2);
        x.down(4, true);
        x.plan(2, 0, 0b11000, 1);
        x.plan(2, 1, 0b11100, 3);
        return x;
    }

    /** A row of so many, the PREPARES 4 of asker 0; PREPARE to keeper 2 is the last one. */
    private static Story rowOf(int many) {
        Story x = new Story();
        x.ask(0, 0, SET, 5L);
        while (x.messages() > many) {
            x.lose(0);
        }
        int last = Math.min(many, 3) - 1;
        return many > 3 ? x.fill(last, many) : x;
    }

    private static Story askedTimes(int many) {
        Story x = new Story();
        for (int n = 0; n < many; n++) {
            CHECK.due("ask", x.ask(n % 4, 0, READ, 0L), n);
            x.give(n % 4);
        }
        return x;
    }

    private static void newObjectIsEmpty() {
        CHECK.sentence("1: As told; no MESSAGES, no REQUESTS, no KEEPER is DOWN.");
        Story x = new Story();
        CHECK.due("messages", x.messages(), 0);
        for (int asker = 0; asker < 4; asker++) {
            CHECK.due("its REQUEST", x.asker(asker, 1), -1);
        }
        CHECK.outOfBounds("a MESSAGE", x, s -> s.message(0, 0));
        CHECK.outOfBounds("a REQUEST", x, s -> s.request(0, 0));
        CHECK.outOfBounds("its result", x, s -> s.result(0));
        for (int keeper = 0; keeper < 9; keeper++) {
            CHECK.due("DOWN", x.down(keeper, true), false);
        }
        Story other = new Story();
        CHECK.due("another object has its own", other.down(0, false), false);
    }

    private static void askNumbers() {
        CHECK.sentence("2: Answers its number (from 0 on)");
        Story x = new Story();
        CHECK.due("the first", x.ask(3, 0, READ, 0L), 0);
        CHECK.due("the second", x.ask(0, 0, READ, 0L), 1);
        CHECK.due("NONE is no number", x.ask(0, 0, READ, 0L), -1);
        CHECK.due("the third", x.ask(1, 0, READ, 0L), 2);
    }

    private static void askNoneWhenTheAskerHasOne() {
        CHECK.sentence("2: NONE when the ASKER has one");
        Story x = new Story();
        x.ask(0, 0, SET, 5L);
        CHECK.none("PREPARING", x, s -> s.ask(0, 1, SET, 6L));
        x.run(5);
        CHECK.none("ACCEPTING", x, s -> s.ask(0, 1, SET, 6L));
        CHECK.due("another ASKER", x.again().ask(1, 1, SET, 6L), 1);
        Story given = x.again();
        given.give(0);
        CHECK.due("when it is LOST", given.ask(0, 1, SET, 6L), 1);
        x.runAll();
        CHECK.due("when it is DONE", x.ask(0, 1, SET, 6L), 1);
    }

    private static void askNoneWhenThereWere200() {
        CHECK.sentence("2: NONE when there were 200");
        Story x = askedTimes(199);
        x.runAll();
        CHECK.due("the 200th", x.ask(3, 0, SET, 7L), 199);
        x.runAll();
        CHECK.due("it goes its way", x.request(199, 0), 1);
        for (int asker = 0; asker < 4; asker++) {
            int by = asker;
            CHECK.none("the 201st", x, s -> s.ask(by, 0, SET, 8L));
        }
    }

    private static void askOutOfBounds() {
        CHECK.sentence("2: IndexOutOfBoundsException: there is no such ASKER, or KEY.");
        Story x = some();
        CHECK.due("the least of both", x.again().ask(0, 0, READ, 0L), 2);
        CHECK.due("the greatest of both", x.again().ask(3, 3, READ, 0L), 2);
        for (int none : new int[] {-1, 4, MIN, MAX}) {
            CHECK.outOfBounds("ASKER " + none, x, s -> s.ask(none, 0, READ, 0L));
            CHECK.outOfBounds("KEY " + none, x, s -> s.ask(0, none, READ, 0L));
        }
    }

    private static void askIllegal() {
        CHECK.sentence("2: IllegalArgumentException: the CHANGE is not 0 .. 6.");
        Story x = some();
        CHECK.due("CHANGE 0", x.again().ask(0, 0, 0, 0L), 2);
        CHECK.due("CHANGE 6", x.again().ask(0, 0, 6, 0L), 2);
        for (int none : new int[] {-1, 7, MIN, MAX}) {
            CHECK.illegal("CHANGE " + none, x, s -> s.ask(0, 0, none, 0L));
        }
    }

    private static void askFirstNamed() {
        CHECK.sentence("Methods throw what their comments name, the one named first when several would do: ask");
        Story x = some();
        for (int none : new int[] {-1, 4}) {
            CHECK.outOfBounds("ASKER and CHANGE", x, s -> s.ask(none, 0, 7, 0L));
            CHECK.outOfBounds("KEY and CHANGE", x, s -> s.ask(0, none, -1, 0L));
            CHECK.outOfBounds("all", x, s -> s.ask(none, none, 7, 0L));
            CHECK.outOfBounds("KEY, of an ASKER that has one", x, s -> s.ask(1, none, READ, 0L));
        }
        CHECK.illegal("CHANGE, of an ASKER that has one", x, s -> s.ask(1, 0, 7, 0L));
        Story all = askedTimes(200);
        CHECK.outOfBounds("ASKER, when there were 200", all, s -> s.ask(4, 0, READ, 0L));
        CHECK.outOfBounds("KEY, when there were 200", all, s -> s.ask(0, 4, READ, 0L));
        CHECK.illegal("CHANGE, when there were 200", all, s -> s.ask(0, 0, 7, 0L));
    }

    private static void giveNone() {
        CHECK.sentence("3: Answers its number; NONE when it has none.");
        Story x = new Story();
        CHECK.none("it never had one", x, s -> s.give(0));
        x.ask(1, 0, SET, 5L);
        x.ask(0, 0, SET, 5L);
        CHECK.due("its number", x.give(0), 1);
        CHECK.due("it is LOST", x.request(1, 0), 2);
        CHECK.none("it is LOST", x, s -> s.give(0));
        CHECK.none("another ASKER", x, s -> s.give(2));
        CHECK.due("that of the other one goes on", x.request(0, 0), 0);
        x.runAll();
        CHECK.due("that one is DONE", x.request(0, 0), 1);
        CHECK.none("it is DONE", x, s -> s.give(1));
    }

    private static void giveOutOfBounds() {
        CHECK.sentence("3: IndexOutOfBoundsException: there is no such ASKER.");
        Story x = new Story();
        x.ask(0, 0, SET, 5L);
        x.ask(3, 0, SET, 5L);
        for (int none : new int[] {-1, 4, MIN, MAX}) {
            CHECK.outOfBounds("ASKER " + none, x, s -> s.give(none));
        }
        CHECK.due("the first", x.give(0), 0);
        CHECK.due("the last", x.give(3), 1);
    }

    private static void planFromNowOn() {
        CHECK.sentence("4: for REQUESTS that begin from now on");
        Story x = new Story();
        x.ask(0, 0, SET, 5L);
        x.plan(0, 0, 8, 1);
        x.plan(0, 1, 16, 1);
        CHECK.due("what was sent stays", x.messages(), 3);
        CHECK.due("it runs as it began", x.runAll(), 12);
        CHECK.due("accepted as it began", x.kept(2, 0), 5);
        x.ask(0, 0, SET, 6L);
        CHECK.message("the next one", x, 0, 0, 0, 3);
        CHECK.due("it runs by the new PLAN", x.runAll(), 4);
        CHECK.due("accepted by the new PLAN", x.kept(4, 0), 6);
    }

    private static void planOutOfBounds() {
        CHECK.sentence("4: IndexOutOfBoundsException: there is no such ASKER, or another which.");
        Story x = some();
        for (int none : new int[] {-1, 4, MIN, MAX}) {
            CHECK.outOfBounds("ASKER " + none, x, s -> s.plan(none, 0, 7, 2));
        }
        for (int none : new int[] {-1, 2, MIN, MAX}) {
            CHECK.outOfBounds("which " + none, x, s -> s.plan(0, none, 7, 1));
        }
        for (int asker : new int[] {0, 3}) {
            Story fine = new Story();
            fine.plan(asker, 0, 3, 1);
            fine.plan(asker, 1, 8, 1);
            fine.ask(asker, 0, SET, 5L);
            CHECK.due("which 0 is for preparing", fine.messages(), 2);
            fine.run(3);
            CHECK.message("which 1 is for accepting", fine, 1, 2, asker, 3);
        }
    }

    private static void planSet() {
        CHECK.sentence("4: IllegalArgumentException: the set is not 1 .. 511");
        Story x = some();
        for (int which = 0; which < 2; which++) {
            int part = which;
            for (int none : new int[] {0, 512, -1, 513, 1023, MIN, MAX}) {
                CHECK.illegal("set " + none, x, s -> s.plan(0, part, none, 1));
            }
        }
        for (int set : new int[] {1, 2, 256, 510, 511}) {
            Story fine = new Story();
            fine.plan(0, 0, set, 1);
            fine.plan(0, 1, set, 1);
            fine.ask(0, 0, SET, 5L);
            CHECK.due("set " + set, fine.messages(), Integer.bitCount(set));
            fine.runAll();
            CHECK.due("set " + set + " is DONE", fine.request(0, 0), 1);
        }
    }

    private static void planEnough() {
        CHECK.sentence("4: IllegalArgumentException: enough not 1 .. how many it has");
        for (int many = 1; many <= 9; many++) {
            int low = (1 << many) - 1;
            int high = low << (9 - many);
            Story x = some();
            int over = many + 1;
            for (int which = 0; which < 2; which++) {
                int part = which;
                CHECK.illegal("none of " + many, x, s -> s.plan(0, part, low, 0));
                CHECK.illegal("more than " + many, x, s -> s.plan(0, part, low, over));
                CHECK.illegal("none of " + many + ", high", x, s -> s.plan(0, part, high, 0));
                CHECK.illegal("more than " + many + ", high", x, s -> s.plan(0, part, high, over));
                x.plan(3, part, high, 1);
                x.plan(3, part, high, many);
            }
            x.runAll();
            x.down(4, false);
            int r = x.change(3, 2, SET, 5L);
            CHECK.due(many + " of " + many, x.request(r, 0), 1);
        }
        Story x = some();
        for (int none : new int[] {-1, MIN, MAX}) {
            CHECK.illegal("enough " + none, x, s -> s.plan(0, 0, 511, none));
        }
    }

    private static void planFirstNamed() {
        CHECK.sentence("Methods throw what their comments name, the one named first when several would do: plan");
        Story x = some();
        CHECK.outOfBounds("ASKER and set", x, s -> s.plan(4, 0, 0, 1));
        CHECK.outOfBounds("ASKER and enough", x, s -> s.plan(-1, 0, 7, 4));
        CHECK.outOfBounds("which and set", x, s -> s.plan(0, 2, 512, 1));
        CHECK.outOfBounds("which and enough", x, s -> s.plan(0, -1, 7, 0));
        CHECK.outOfBounds("all", x, s -> s.plan(4, 2, 0, 0));
        CHECK.illegal("set and enough", x, s -> s.plan(0, 0, 512, 2));
    }

    private static void takeFirstAndLast() {
        CHECK.sentence("5: MESSAGE i of the row is taken: the first, the last, the only one");
        Story x = rowOf(3);
        CHECK.due("the last", x.take(2), 0);
        CHECK.message("its answer is the last then", x, 2, 1, 0, 2);
        CHECK.due("the first", x.take(0), 0);
        CHECK.message("the second is the first then", x, 0, 0, 0, 1);
        CHECK.message("its answer is the last then", x, 2, 1, 0, 0);
        Story only = rowOf(1);
        CHECK.due("the only one", only.take(0), 0);
        CHECK.due("its answer is the only one", only.messages(), 1);
        CHECK.due("that is taken, too", only.take(0), 1);
        CHECK.due("none is left", only.messages(), 0);
        Story full = rowOf(300);
        CHECK.due("the last of 300", full.take(299), 0);
        CHECK.due("the first of 300", full.take(0), 0);
    }

    private static void takeOutOfBounds() {
        CHECK.sentence("5: IndexOutOfBoundsException: there is none such.");
        for (int many : new int[] {0, 1, 2, 3, 299, 300}) {
            Story x = rowOf(many);
            CHECK.outOfBounds("before the first of " + many, x, s -> s.take(-1));
            CHECK.outOfBounds("behind the last of " + many, x, s -> s.take(many));
        }
        Story x = rowOf(3);
        for (int none : new int[] {4, 299, 300, 301, MIN, MAX}) {
            CHECK.outOfBounds("MESSAGE " + none, x, s -> s.take(none));
        }
    }

    private static void runAsFarAsThereAre() {
        CHECK.sentence("6: n of them, are taken, one by one, as far as there are any. Answers how many.");
        CHECK.due("of none", new Story().run(1000), 0);
        CHECK.due("0 of none", new Story().run(0), 0);
        Story none = rowOf(3);
        CHECK.due("0 of three", none.run(0), 0);
        CHECK.same("0 takes nothing", none.view(), rowOf(3).view());
        for (int n = 1; n <= 14; n++) {
            Story x = rowOf(3);
            CHECK.due("n " + n, x.run(n), Math.min(n, 12));
            Story byOne = rowOf(3);
            for (int i = 0; i < Math.min(n, 12); i++) {
                byOne.take(0);
            }
            CHECK.same("n " + n + ": as one by one", x.view(), byOne.view());
        }
        Story full = rowOf(300);
        CHECK.due("299 of 300", full.again().run(299), 299);
        CHECK.due("300 of 300", full.again().run(300), 300);
        CHECK.due("301 of 300", full.again().run(301), 301);
    }

    private static void runIllegal() {
        CHECK.sentence("6: IllegalArgumentException: n is not 0 .. 1000.");
        for (int many : new int[] {0, 3, 300}) {
            Story x = rowOf(many);
            for (int none : new int[] {-1, 1001, MIN, MAX}) {
                CHECK.illegal("n " + none + " of " + many, x, s -> s.run(none));
            }
        }
        CHECK.due("n 1000", rowOf(3).run(1000), 12);
        CHECK.due("n 999", rowOf(3).run(999), 12);
        CHECK.due("n 0", rowOf(3).run(0), 0);
    }

    private static void loseFirstAndLast() {
        CHECK.sentence("7: MESSAGE i of the row is lost. Answers its sort.");
        Story x = rowOf(3);
        x.take(0);
        CHECK.due("the last", x.lose(2), 1);
        CHECK.due("it did not count", x.asker(0, 3), 0);
        CHECK.due("the first", x.lose(0), 0);
        CHECK.due("it had no effect", x.keeper(1, 0, 0), 0);
        CHECK.message("the second is the first then", x, 0, 0, 0, 2);
        CHECK.due("the only one", x.lose(0), 0);
        CHECK.due("none is left", x.messages(), 0);
        Story full = rowOf(300);
        CHECK.due("the last of 300", full.lose(299), 0);
        CHECK.due("299 are left", full.messages(), 299);
        CHECK.due("the first of 299", full.lose(0), 0);
        CHECK.message("the second is the first then", full, 0, 0, 0, 1);
        CHECK.message("the last stays the last", full, 297, 0, 0, 2);
    }

    private static void loseOutOfBounds() {
        CHECK.sentence("7: IndexOutOfBoundsException: there is none such.");
        for (int many : new int[] {0, 1, 2, 3, 299, 300}) {
            Story x = rowOf(many);
            CHECK.outOfBounds("before the first of " + many, x, s -> s.lose(-1));
            CHECK.outOfBounds("behind the last of " + many, x, s -> s.lose(many));
        }
        Story x = rowOf(3);
        for (int none : new int[] {4, 299, 300, 301, MIN, MAX}) {
            CHECK.outOfBounds("MESSAGE " + none, x, s -> s.lose(none));
        }
    }

    private static void twiceAtTheEnd() {
        CHECK.sentence("8: MESSAGE i comes once more, at the end of the row. Answers how many there are then");
        Story x = rowOf(3);
        CHECK.due("the first", x.twice(0), 4);
        CHECK.message("at the end", x, 3, 0, 0, 0, 0, 4, -1);
        CHECK.message("and where it was", x, 0, 0, 0, 0, 0, 4, -1);
        CHECK.due("the last", x.twice(3), 5);
        CHECK.message("at the end", x, 4, 0, 0, 0, 0, 4, -1);
        Story only = rowOf(1);
        CHECK.due("the only one", only.twice(0), 2);
        Story accept = new Story();
        accept.ask(0, 2, SET, 44L);
        accept.run(6);
        accept.twice(2);
        CHECK.message("ACCEPT", accept, 3, 2, 0, 2, 0, 4, 1);
        accept.take(3);
        CHECK.due("with its KEY and STATE", accept.kept(2, 2), 44);
        CHECK.message("the first one stays", accept, 2, 2, 0, 2, 0, 4, 1);
    }

    private static void twiceNone() {
        CHECK.sentence("8: NONE when there are 300.");
        Story x = rowOf(298);
        CHECK.due("298", x.twice(0), 299);
        CHECK.due("299", x.twice(298), 300);
        CHECK.none("300, the first", x, s -> s.twice(0));
        CHECK.none("300, the last", x, s -> s.twice(299));
        x.lose(0);
        CHECK.due("299 again", x.twice(0), 300);
    }

    private static void twiceOutOfBounds() {
        CHECK.sentence("8: IndexOutOfBoundsException: there is none such.");
        for (int many : new int[] {0, 1, 2, 3, 299, 300}) {
            Story x = rowOf(many);
            CHECK.outOfBounds("before the first of " + many, x, s -> s.twice(-1));
            CHECK.outOfBounds("behind the last of " + many, x, s -> s.twice(many));
        }
        Story x = rowOf(3);
        for (int none : new int[] {4, 299, 300, 301, MIN, MAX}) {
            CHECK.outOfBounds("MESSAGE " + none, x, s -> s.twice(none));
        }
    }

    private static void downWas() {
        CHECK.sentence("9: A KEEPER is DOWN, or not. Answers whether it was.");
        for (int keeper = 0; keeper < 9; keeper++) {
            Story x = new Story();
            CHECK.due("not DOWN, is not", x.down(keeper, false), false);
            CHECK.due("DOWN, was not", x.down(keeper, true), false);
            CHECK.due("DOWN, was", x.down(keeper, true), true);
            for (int other = 0; other < 9; other++) {
                CHECK.due("that one alone", x.down(other, false), other == keeper);
            }
            CHECK.due("no more", x.down(keeper, true), false);
        }
    }

    private static void downKeeps() {
        CHECK.sentence("9: (it keeps what it has)");
        Story x = some();
        String before = x.view();
        for (int keeper = 0; keeper < 9; keeper++) {
            x.down(keeper, true);
        }
        CHECK.same("DOWN", x.view(), before);
        for (int keeper = 0; keeper < 9; keeper++) {
            x.down(keeper, false);
        }
        CHECK.same("not DOWN", x.view(), before);
    }

    private static void downOutOfBounds() {
        CHECK.sentence("9: IndexOutOfBoundsException: there is no such KEEPER.");
        Story x = some();
        for (int none : new int[] {-1, 9, MIN, MAX}) {
            CHECK.outOfBounds("DOWN " + none, x, s -> s.down(none, true));
            CHECK.outOfBounds("not DOWN " + none, x, s -> s.down(none, false));
        }
        CHECK.due("the first", x.down(0, true), false);
        CHECK.due("the last", x.down(8, true), false);
    }

    /** Keepers 0, 1, 2 ACCEPTED 4, 5, 6 for key 0, the VALUES 10, 20, 30. */
    private static Story accepted456() {
        Story x = new Story();
        for (int keeper = 0; keeper < 3; keeper++) {
            x.planOne(keeper, keeper);
            x.change(keeper, 0, SET, 10L * (keeper + 1));
        }
        return x;
    }

    private static void copyGreaterOnly() {
        CHECK.sentence("10: ACCEPTED for all KEYS what another one did, where that ACCEPTED a greater BALLOT");
        Story greater = accepted456();
        CHECK.due("one greater", greater.copy(1, 2), 1);
        CHECK.due("its BALLOT", greater.keeper(1, 0, 1), 6);
        CHECK.due("its VALUE", greater.kept(1, 0), 30);
        CHECK.due("the other one keeps it", greater.kept(2, 0), 30);
        Story lesser = accepted456();
        CHECK.due("one less", lesser.copy(1, 0), 0);
        CHECK.due("equal", lesser.copy(1, 1), 0);
        CHECK.due("none", lesser.copy(1, 8), 0);
        CHECK.same("nothing is changed", lesser.view(), accepted456().view());
        CHECK.due("to one that has none", lesser.copy(8, 0), 1);
        CHECK.due("its BALLOT", lesser.keeper(8, 0, 1), 4);
        CHECK.due("equal then", lesser.copy(8, 0), 0);
        CHECK.due("of none, to none", lesser.copy(7, 6), 0);
        Story absent = accepted456();
        absent.change(2, 0, TAKE_AWAY, 0L);
        CHECK.due("absent, of a greater BALLOT", absent.copy(0, 2), 1);
        CHECK.due("its VERSION", absent.keeper(0, 0, 2), -1);
        CHECK.due("its VALUE", absent.kept(0, 0), 0);
        CHECK.due("its BALLOT", absent.keeper(0, 0, 1), 10);
    }

    /** Keeper 0 has ACCEPTED 4, keeper 8 nothing; their PROMISES are of these askers (none when NONE). */
    private static Story promises(int here, int there) {
        Story x = new Story();
        x.planOne(0, 0).change(0, 0, SET, 9L);
        if (here >= 0) {
            x.planOne(here, 8).ask(here, 0, READ, 0L);
            x.take(0);
            x.lose(0);
        }
        if (there >= 0) {
            x.planOne(there, 0).ask(there, 0, READ, 0L);
            x.take(0);
            x.lose(0);
        }
        return x;
    }

    private static void copyPromise() {
        CHECK.sentence("10: the PROMISE is then the greater one of both.");
        int[][] cases = {{-1, -1, 0}, {1, -1, 5}, {-1, 1, 5}, {1, 2, 6}, {2, 1, 6}, {3, 1, 7}};
        for (int[] promised : cases) {
            Story x = promises(promised[0], promised[1]);
            int there = x.keeper(0, 0, 0);
            CHECK.due("copy", x.copy(8, 0), 1);
            CHECK.due("of " + promised[0] + " and " + promised[1], x.keeper(8, 0, 0), promised[2]);
            CHECK.due("that of the other one stays", x.keeper(0, 0, 0), there);
            CHECK.due("accepted", x.keeper(8, 0, 1), 4);
        }
        Story equal = new Story();
        equal.change(0, 0, SET, 9L);
        equal.ask(1, 0, READ, 0L);
        equal.take(0);
        CHECK.due("nothing greater", equal.copy(1, 0), 0);
        CHECK.due("then the PROMISE stays", equal.keeper(1, 0, 0), 0);
    }

    private static void copyHowManyKeys() {
        CHECK.sentence("10: Answers for how many KEYS.");
        for (int many = 0; many <= 4; many++) {
            Story x = new Story();
            for (int key = 0; key < many; key++) {
                x.change(0, key, SET, 10L + key);
            }
            CHECK.due(many + " KEYS", x.copy(8, 0), many);
            for (int key = 0; key < 4; key++) {
                CHECK.due("VALUE of KEY " + key, x.kept(8, key), key < many ? 10 + key : 0);
                CHECK.due("BALLOT of KEY " + key, x.keeper(8, key, 1), key < many ? 4 * (key + 1) : 0);
            }
            CHECK.due("none again", x.copy(8, 0), 0);
        }
        Story last = new Story();
        last.change(0, 3, SET, 13L);
        CHECK.due("the last KEY alone", last.copy(8, 0), 1);
        CHECK.due("its VALUE", last.kept(8, 3), 13);
    }

    private static void copyItself() {
        CHECK.sentence("10: where that ACCEPTED a greater BALLOT: never the KEEPER itself");
        for (int keeper = 0; keeper < 9; keeper++) {
            Story x = some();
            CHECK.due("itself", x.copy(keeper, keeper), 0);
            CHECK.same("nothing is changed", x.view(), some().view());
        }
    }

    private static void copyOutOfBounds() {
        CHECK.sentence("10: IndexOutOfBoundsException: there is no such KEEPER.");
        Story x = some();
        for (int none : new int[] {-1, 9, MIN, MAX}) {
            CHECK.outOfBounds("to " + none, x, s -> s.copy(none, 0));
            CHECK.outOfBounds("from " + none, x, s -> s.copy(3, none));
            CHECK.outOfBounds("both " + none, x, s -> s.copy(none, none));
        }
        CHECK.due("to the last, from the first", x.copy(8, 0), 1);
        CHECK.due("to the first, from the last", x.copy(0, 8), 0);
    }
}
