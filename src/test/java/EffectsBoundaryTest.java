/** What a MESSAGE does when it is taken: each boundary that the document names there has a test of its own. */
public final class EffectsBoundaryTest {
    private static final Check CHECK = new Check("EffectsBoundaryTest");
    private static final int READ = 0;
    private static final int BEGIN = 1;
    private static final int SET = 2;
    private static final int ADD = 4;
    private static final int TAKE_AWAY = 5;

    public static void main(String[] args) {
        CHECK.test("prepareAndThePromise", EffectsBoundaryTest::prepareAndThePromise);
        CHECK.test("prepareAndTheAccepted", EffectsBoundaryTest::prepareAndTheAccepted);
        CHECK.test("prepareAbovePromiseOnly", EffectsBoundaryTest::prepareAbovePromiseOnly);
        CHECK.test("prepareAboveAcceptedOnly", EffectsBoundaryTest::prepareAboveAcceptedOnly);
        CHECK.test("prepareOfAnotherKey", EffectsBoundaryTest::prepareOfAnotherKey);
        CHECK.test("promisedOfAnotherRequest", EffectsBoundaryTest::promisedOfAnotherRequest);
        CHECK.test("promisedWithoutRequest", EffectsBoundaryTest::promisedWithoutRequest);
        CHECK.test("promisedWhileAccepting", EffectsBoundaryTest::promisedWhileAccepting);
        CHECK.test("promisedTwice", EffectsBoundaryTest::promisedTwice);
        CHECK.test("promisedEnough", EffectsBoundaryTest::promisedEnough);
        CHECK.test("greatestBallotTold", EffectsBoundaryTest::greatestBallotTold);
        CHECK.test("greatestBallotOfAbsence", EffectsBoundaryTest::greatestBallotOfAbsence);
        CHECK.test("onlyWhatWasTold", EffectsBoundaryTest::onlyWhatWasTold);
        CHECK.test("nothingAcceptedTold", EffectsBoundaryTest::nothingAcceptedTold);
        CHECK.test("acceptByTheSet", EffectsBoundaryTest::acceptByTheSet);
        CHECK.test("acceptAndThePromise", EffectsBoundaryTest::acceptAndThePromise);
        CHECK.test("acceptAndTheAccepted", EffectsBoundaryTest::acceptAndTheAccepted);
        CHECK.test("acceptAbovePromiseOnly", EffectsBoundaryTest::acceptAbovePromiseOnly);
        CHECK.test("promiseIs0Then", EffectsBoundaryTest::promiseIs0Then);
        CHECK.test("takenOfAnotherRequest", EffectsBoundaryTest::takenOfAnotherRequest);
        CHECK.test("takenWithoutRequest", EffectsBoundaryTest::takenWithoutRequest);
        CHECK.test("takenTwice", EffectsBoundaryTest::takenTwice);
        CHECK.test("takenEnough", EffectsBoundaryTest::takenEnough);
        CHECK.test("doneWithTheNewState", EffectsBoundaryTest::doneWithTheNewState);
        CHECK.test("refusedRaisesToAFourth", EffectsBoundaryTest::refusedRaisesToAFourth);
        CHECK.test("refusedLeavesAGreaterCount", EffectsBoundaryTest::refusedLeavesAGreaterCount);
        CHECK.test("refusedLosesThatRequest", EffectsBoundaryTest::refusedLosesThatRequest);
        CHECK.test("refusedOfAnotherRequest", EffectsBoundaryTest::refusedOfAnotherRequest);
        CHECK.test("refusedWithoutRequest", EffectsBoundaryTest::refusedWithoutRequest);
        CHECK.test("lostMayYetComeToBe", EffectsBoundaryTest::lostMayYetComeToBe);
        CHECK.test("downTakesNothing", EffectsBoundaryTest::downTakesNothing);
        CHECK.test("downAnswersCount", EffectsBoundaryTest::downAnswersCount);
        CHECK.end();
    }

    /** Keeper 0 PROMISED 5, to asker 1; nothing else is in the row. */
    private static Story promised5() {
        Story x = new Story();
        x.planOne(0, 0).planOne(1, 0).planOne(2, 0).planOne(3, 0);
        x.ask(1, 0, SET, 15L);
        x.take(0);
        x.lose(0);
        return x;
    }

    /** Keeper 0 ACCEPTED 5, of asker 1, and has no PROMISE; nothing else is in the row. */
    private static Story accepted5() {
        Story x = new Story();
        x.planOne(0, 0).planOne(1, 0).planOne(2, 0).planOne(3, 0);
        x.change(1, 0, SET, 15L);
        return x;
    }

    private static void prepareAndThePromise() {
        CHECK.sentence("PREPARE: if its BALLOT is above the PROMISE, it is the PROMISE then, PROMISED; else REFUSED");
        Story below = promised5();
        below.ask(0, 0, SET, 1L);
        CHECK.message("one below", below, 0, 0, 0, 0, 1, 4, -1);
        below.take(0);
        CHECK.message("one below is refused", below, 0, 4, 0, 0, 1, 5, -1);
        CHECK.due("the promise stays", below.keeper(0, 0, 0), 5);

        Story equal = new Story();
        equal.planOne(1, 0).ask(1, 0, SET, 1L);
        equal.twice(0);
        equal.take(0);
        equal.take(0);
        CHECK.message("the first", equal, 0, 1, 1, 0, 0, 0, -1);
        CHECK.message("the same one is refused", equal, 1, 4, 1, 0, 0, 5, -1);
        CHECK.due("the promise stays", equal.keeper(0, 0, 0), 5);

        Story above = promised5();
        above.ask(2, 0, SET, 1L);
        above.take(0);
        CHECK.message("one above is promised", above, 0, 1, 2, 0, 1, 0, -1);
        CHECK.due("it is the promise", above.keeper(0, 0, 0), 6);
    }

    private static void prepareAndTheAccepted() {
        CHECK.sentence("PREPARE: and above that which it ACCEPTED");
        Story below = accepted5();
        below.ask(0, 0, SET, 1L);
        below.take(0);
        CHECK.message("one below is refused", below, 0, 4, 0, 0, 1, 5, -1);
        CHECK.due("no promise", below.keeper(0, 0, 0), 0);

        Story equal = new Story();
        equal.planOne(1, 0).ask(1, 0, SET, 1L);
        equal.twice(0);
        equal.take(0);
        equal.take(1);
        equal.take(1);
        CHECK.due("accepted", equal.keeper(0, 0, 1), 5);
        CHECK.due("no promise", equal.keeper(0, 0, 0), 0);
        equal.take(0);
        CHECK.message("the same one is refused", equal, 1, 4, 1, 0, 0, 5, -1);
        CHECK.due("still no promise", equal.keeper(0, 0, 0), 0);

        Story above = accepted5();
        above.ask(2, 0, SET, 1L);
        above.take(0);
        CHECK.message("one above is promised, and told", above, 0, 1, 2, 0, 1, 5, 1);
        CHECK.due("it is the promise", above.keeper(0, 0, 0), 6);
        CHECK.due("the accepted stays", above.keeper(0, 0, 1), 5);
    }

    /** Keeper 5 has the PROMISE 4, and by copy ACCEPTED 7. */
    private static Story promise4Accepted7() {
        Story x = new Story();
        x.planOne(0, 5).planOne(1, 5).planOne(2, 5).planOne(3, 0);
        x.change(3, 0, SET, 37L);
        x.ask(0, 0, SET, 1L);
        x.take(0);
        x.lose(0);
        x.give(0);
        x.copy(5, 0);
        CHECK.due("the promise", x.keeper(5, 0, 0), 4);
        CHECK.due("the accepted", x.keeper(5, 0, 1), 7);
        return x;
    }

    private static void prepareAbovePromiseOnly() {
        CHECK.sentence("PREPARE: else REFUSED (the greater one of both BALLOTS): that which it ACCEPTED");
        for (int asker = 1; asker <= 2; asker++) {
            Story x = promise4Accepted7();
            x.ask(asker, 0, SET, 1L);
            x.take(0);
            CHECK.message("above the promise, below the accepted", x, 0, 4, asker, 5, 2, 7, -1);
            CHECK.due("the promise stays", x.keeper(5, 0, 0), 4);
        }
        Story x = promise4Accepted7();
        x.ask(0, 0, SET, 1L);
        x.take(0);
        CHECK.message("above both", x, 0, 1, 0, 5, 2, 7, 1);
        CHECK.due("it is the promise", x.keeper(5, 0, 0), 8);
    }

    private static void prepareAboveAcceptedOnly() {
        CHECK.sentence("PREPARE: else REFUSED (the greater one of both BALLOTS): the PROMISE");
        Story x = accepted5();
        x.ask(3, 0, SET, 1L);
        x.take(0);
        x.lose(0);
        CHECK.due("the promise", x.keeper(0, 0, 0), 7);
        x.ask(2, 0, SET, 1L);
        x.take(0);
        CHECK.message("above the accepted, below the promise", x, 0, 4, 2, 0, 2, 7, -1);
        CHECK.due("the promise stays", x.keeper(0, 0, 0), 7);
        CHECK.due("the accepted stays", x.keeper(0, 0, 1), 5);
    }

    private static void prepareOfAnotherKey() {
        CHECK.sentence("PREPARE (KEY, BALLOT): for each KEY a KEEPER has a PROMISE");
        Story x = promised5();
        x.ask(0, 1, SET, 1L);
        x.take(0);
        CHECK.message("a lesser one for another KEY", x, 0, 1, 0, 0, 1, 0, -1);
        CHECK.due("the promise of that", x.keeper(0, 1, 0), 4);
        CHECK.due("the promise of the first", x.keeper(0, 0, 0), 5);
    }

    private static void promisedOfAnotherRequest() {
        CHECK.sentence("PROMISED taken by the ASKER, if its REQUEST is that");
        Story x = new Story();
        x.ask(0, 0, SET, 1L);
        x.take(0);
        x.take(0);
        x.give(0);
        x.ask(0, 1, SET, 2L);
        CHECK.message("of the one before", x, 1, 1, 0, 0, 0, 0, -1);
        CHECK.gone("PROMISED of the one before", x, 1);
        x.take(1);
        x.take(1);
        CHECK.due("none counts", x.asker(0, 3), 0);
        CHECK.due("it is PREPARING", x.asker(0, 2), 0);
    }

    private static void promisedWithoutRequest() {
        CHECK.sentence("PROMISED taken by the ASKER that has no REQUEST: what has no such effect is gone");
        Story x = new Story();
        x.ask(0, 0, SET, 1L);
        x.take(0);
        x.take(0);
        x.give(0);
        CHECK.gone("PROMISED of one that was given up", x, 1);
        x.take(1);
        x.take(1);
        CHECK.due("nothing is sent", x.messages(), 1);
        CHECK.due("it stays LOST", x.request(0, 0), 2);
    }

    private static void promisedWhileAccepting() {
        CHECK.sentence("PROMISED taken by the ASKER, if it is PREPARING");
        Story x = new Story();
        x.ask(0, 0, SET, 1L);
        x.run(5);
        CHECK.message("a third one", x, 0, 1, 0, 2);
        CHECK.due("it is ACCEPTING", x.asker(0, 2), 1);
        CHECK.gone("PROMISED while ACCEPTING", x, 0);
        x.take(0);
        CHECK.due("it does not count for this step", x.asker(0, 3), 0);
    }

    private static void promisedTwice() {
        CHECK.sentence("PROMISED: and this KEEPER did not answer it yet");
        Story x = new Story();
        x.ask(0, 0, SET, 1L);
        x.take(0);
        x.twice(2);
        x.take(2);
        CHECK.due("the first counts", x.asker(0, 3), 1);
        CHECK.gone("PROMISED of the same KEEPER", x, 2);
        x.take(2);
        CHECK.due("the second does not", x.asker(0, 3), 1);
        x.take(1);
        x.take(1);
        CHECK.due("that of another KEEPER is enough", x.asker(0, 2), 1);
    }

    private static void promisedEnough() {
        CHECK.sentence("PROMISED: it counts. With enough: it is ACCEPTING");
        for (int enough = 1; enough <= 9; enough++) {
            Story x = new Story();
            x.plan(0, 0, 511, enough);
            x.ask(0, 0, SET, 1L);
            x.run(9);
            for (int n = 1; n < enough; n++) {
                x.run(1);
                CHECK.due(n + " of " + enough + " count", x.asker(0, 3), n);
                CHECK.due(n + " of " + enough + " are not enough", x.asker(0, 2), 0);
                CHECK.due(n + " of " + enough + " send nothing", x.messages(), 9 - n);
            }
            x.run(1);
            CHECK.due(enough + " are enough", x.asker(0, 2), 1);
            CHECK.due(enough + ": no KEEPER answered that step", x.asker(0, 3), 0);
            CHECK.due(enough + ": three ACCEPTS are sent", x.messages(), 9 - enough + 3);
        }
    }

    /**
     * Keepers 0, 1, 2 ACCEPTED the BALLOTS 4, 9 and 14, the STATES 10, 20 and 30 of VERSIONS 1, 2, 3;
     * the next BALLOT of asker 3 is above them.
     */
    private static Story three() {
        Story x = new Story();
        for (int keeper = 0; keeper < 3; keeper++) {
            x.planOne(keeper, keeper);
            for (int n = 0; n <= keeper; n++) {
                x.change(keeper, 0, SET, 10L * (keeper + 1));
            }
            CHECK.due("the ballot", x.keeper(keeper, 0, 1), 4 + 5 * keeper);
        }
        x.plan(3, 0, 8, 1);
        for (int n = 0; n < 3; n++) {
            x.ask(3, 3, READ, 0L);
            x.lose(0);
            x.give(3);
        }
        return x;
    }

    private static void greatestBallotTold() {
        CHECK.sentence("of all that were told the STATE with the greatest BALLOT is changed");
        int[][] orders = {{0, 1, 2}, {0, 2, 1}, {1, 0, 2}, {1, 2, 0}, {2, 0, 1}, {2, 1, 0}};
        for (int[] order : orders) {
            Story x = three();
            x.plan(3, 0, 7, 3);
            int r = x.ask(3, 0, ADD, 1L);
            x.run(3);
            takeFrom(x, order);
            x.runAll();
            CHECK.due("the greatest one's VALUE, and one", x.result(r), 31);
            CHECK.due("the greatest one's VERSION, and one", x.request(r, 2), 4);
        }
    }

    /** Takes of the first messages those of the keepers, in that order. */
    private static void takeFrom(Story x, int[] order) {
        for (int keeper : order) {
            int i = 0;
            while (x.message(i, 2) != keeper) {
                i++;
            }
            x.take(i);
        }
    }

    private static void greatestBallotOfAbsence() {
        CHECK.sentence("the STATE with the greatest BALLOT is changed: also one that is absent");
        for (int first = 0; first < 2; first++) {
            Story x = new Story();
            x.planOne(0, 0).planOne(1, 1);
            x.change(0, 0, SET, 10L);
            x.change(1, 0, SET, 20L);
            x.change(1, 0, TAKE_AWAY, 0L);
            x.plan(3, 0, 3, 2);
            x.ask(3, 0, ADD, 1L);
            x.runAll();
            int r = x.ask(3, 0, ADD, 1L);
            x.run(2);
            takeFrom(x, new int[] {first, 1 - first});
            x.runAll();
            CHECK.due("the VALUE of one that was absent", x.result(r), 1);
            CHECK.due("its VERSION", x.request(r, 2), 1);
        }
    }

    private static void onlyWhatWasTold() {
        CHECK.sentence("of all that were told: not of one that answered too late, or whose answer is lost");
        Story late = three();
        late.plan(3, 0, 7, 2);
        int r = late.ask(3, 0, ADD, 1L);
        late.run(3);
        takeFrom(late, new int[] {1, 0});
        CHECK.due("two are enough", late.asker(3, 2), 1);
        CHECK.message("the STATE of the greater of two", late, 1, 2, 3, 0, r, 19, 3);
        late.take(0);
        CHECK.message("it stays", late, 0, 2, 3, 0, r, 19, 3);
        late.runAll();
        CHECK.due("its VALUE, and one", late.result(r), 21);

        Story lost = three();
        lost.plan(3, 0, 7, 2);
        lost.ask(3, 0, ADD, 1L);
        lost.run(3);
        lost.lose(2);
        lost.runAll();
        CHECK.due("the VALUE of the greater of two, and one", lost.result(r), 21);
    }

    private static void nothingAcceptedTold() {
        CHECK.sentence("of all that were told the STATE: absent with BALLOT 0, when none ACCEPTED");
        Story x = new Story();
        x.ask(0, 0, BEGIN, 7L);
        x.run(5);
        CHECK.message("of one that was absent", x, 1, 2, 0, 0, 0, 4, 1);
        Story other = new Story();
        other.change(0, 1, SET, 5L);
        other.ask(0, 0, READ, 0L);
        other.run(5);
        CHECK.message("what was ACCEPTED for another KEY is not told", other, 1, 2, 0, 0, 1, 8, -1);
    }

    private static void acceptByTheSet() {
        CHECK.sentence("an ACCEPT (KEY, BALLOT, the new STATE) is sent to each KEEPER of the set, by their numbers");
        for (int set : new int[] {1, 256, 257, 0b101010100, 511}) {
            Story x = new Story();
            x.plan(0, 0, 8, 1);
            x.plan(0, 1, set, 1);
            x.ask(0, 2, SET, 6L);
            x.run(2);
            int i = 0;
            for (int keeper = 0; keeper < 9; keeper++) {
                if ((set >> keeper & 1) == 1) {
                    CHECK.message("set " + set, x, i, 2, 0, keeper, 0, 4, 1);
                    i++;
                }
            }
            CHECK.due("no more of set " + set, x.messages(), i);
            x.run(i);
            for (int keeper = 0; keeper < 9; keeper++) {
                CHECK.due("kept, set " + set, x.kept(keeper, 2), (set >> keeper & 1) == 1 ? 6 : 0);
            }
        }
    }

    /** The ACCEPT 5 of asker 1 for keeper 0 is the row's only one; the PROMISE of keeper 0 is 5. */
    private static Story accept5() {
        Story x = new Story();
        x.planOne(0, 0).planOne(1, 0).planOne(2, 0).planOne(3, 0);
        x.ask(1, 0, SET, 15L);
        x.run(2);
        CHECK.message("the ACCEPT", x, 0, 2, 1, 0, 0, 5, 1);
        return x;
    }

    private static void acceptAndThePromise() {
        CHECK.sentence("ACCEPT: if its BALLOT is not below the PROMISE, it ACCEPTED this, TAKEN; else REFUSED");
        Story equal = accept5();
        CHECK.due("the promise", equal.keeper(0, 0, 0), 5);
        equal.take(0);
        CHECK.message("the same is taken", equal, 0, 3, 1, 0, 0, 5, -1);
        CHECK.due("it is accepted", equal.keeper(0, 0, 1), 5);
        CHECK.due("with the state", equal.kept(0, 0), 15);

        Story below = accept5();
        below.ask(2, 0, SET, 1L);
        below.take(1);
        below.lose(1);
        CHECK.due("the promise", below.keeper(0, 0, 0), 6);
        below.take(0);
        CHECK.message("one below is refused", below, 0, 4, 1, 0, 0, 6, -1);
        CHECK.due("nothing is accepted", below.keeper(0, 0, 1), 0);
        CHECK.due("nor kept", below.kept(0, 0), 0);
        CHECK.due("the promise stays", below.keeper(0, 0, 0), 6);

        Story above = new Story();
        above.planOne(0, 4).ask(0, 0, SET, 1L);
        above.take(0);
        above.lose(0);
        CHECK.due("the promise", above.keeper(4, 0, 0), 4);
        above.plan(1, 1, 16, 1);
        above.change(1, 0, SET, 2L);
        CHECK.due("one above is accepted", above.keeper(4, 0, 1), 5);
        CHECK.due("with the state", above.kept(4, 0), 2);
        CHECK.due("the promise is 0", above.keeper(4, 0, 0), 0);

        Story none = new Story();
        none.plan(0, 1, 256, 1);
        none.change(0, 0, SET, 3L);
        CHECK.due("without a PROMISE", none.keeper(8, 0, 1), 4);
    }

    private static void acceptAndTheAccepted() {
        CHECK.sentence("ACCEPT: and not below that which it ACCEPTED");
        Story equal = accept5();
        equal.twice(0);
        equal.take(0);
        equal.take(0);
        CHECK.message("the first", equal, 0, 3, 1, 0, 0, 5, -1);
        CHECK.message("the same is taken, too", equal, 1, 3, 1, 0, 0, 5, -1);
        CHECK.due("accepted", equal.keeper(0, 0, 1), 5);
        CHECK.due("kept", equal.kept(0, 0), 15);

        Story below = accept5();
        below.ask(2, 0, SET, 26L);
        below.take(1);
        below.take(1);
        below.take(1);
        below.lose(1);
        CHECK.due("accepted", below.keeper(0, 0, 1), 6);
        CHECK.due("without a promise", below.keeper(0, 0, 0), 0);
        below.take(0);
        CHECK.message("one below is refused", below, 0, 4, 1, 0, 0, 6, -1);
        CHECK.due("it stays", below.keeper(0, 0, 1), 6);
        CHECK.due("and its VALUE", below.kept(0, 0), 26);
        CHECK.due("there is no promise yet", below.keeper(0, 0, 0), 0);

        Story above = accept5();
        above.run(2);
        above.change(2, 0, SET, 26L);
        CHECK.due("one above is accepted", above.keeper(0, 0, 1), 6);
        CHECK.due("and its VALUE", above.kept(0, 0), 26);
    }

    private static void acceptAbovePromiseOnly() {
        CHECK.sentence("ACCEPT: else REFUSED, as above: the greater one of both BALLOTS");
        Story x = new Story();
        x.planOne(0, 5).planOne(3, 0);
        x.change(3, 0, SET, 37L);
        x.ask(0, 0, SET, 1L);
        x.run(2);
        CHECK.message("the ACCEPT", x, 0, 2, 0, 5, 1, 4, 1);
        x.copy(5, 0);
        CHECK.due("the promise", x.keeper(5, 0, 0), 4);
        CHECK.due("the accepted", x.keeper(5, 0, 1), 7);
        x.take(0);
        CHECK.message("not below the promise, but below the accepted", x, 0, 4, 0, 5, 1, 7, -1);
        CHECK.due("the accepted stays", x.keeper(5, 0, 1), 7);
        CHECK.due("the promise stays", x.keeper(5, 0, 0), 4);

        Story late = accept5();
        late.twice(0);
        late.take(0);
        late.ask(2, 0, SET, 1L);
        late.take(2);
        CHECK.due("the promise", late.keeper(0, 0, 0), 6);
        late.take(0);
        CHECK.message("not below the accepted, but below the promise", late, 2, 4, 1, 0, 0, 6, -1);
        CHECK.due("the promise stays", late.keeper(0, 0, 0), 6);
    }

    private static void promiseIs0Then() {
        CHECK.sentence("ACCEPT: the PROMISE is 0");
        Story x = accept5();
        x.ask(0, 1, SET, 1L);
        x.take(1);
        CHECK.due("the promise of another KEY", x.keeper(0, 1, 0), 4);
        x.take(0);
        CHECK.due("the promise", x.keeper(0, 0, 0), 0);
        CHECK.due("that of the other KEY stays", x.keeper(0, 1, 0), 4);
    }

    private static void takenOfAnotherRequest() {
        CHECK.sentence("TAKEN taken by the ASKER, if its REQUEST is that, and ACCEPTING");
        Story x = new Story();
        x.ask(0, 0, SET, 1L);
        x.run(9);
        CHECK.message("TAKEN", x, 0, 3, 0, 0, 0, 4, -1);
        x.give(0);
        x.ask(0, 1, SET, 2L);
        CHECK.gone("TAKEN of the one before, while PREPARING", x, 0);
        for (int i = 0; i < 5; i++) {
            x.take(3);
        }
        CHECK.due("it is ACCEPTING", x.asker(0, 2), 1);
        CHECK.gone("TAKEN of the one before, while ACCEPTING", x, 0);
        x.take(0);
        x.take(0);
        CHECK.due("none counts", x.asker(0, 3), 0);
        CHECK.due("it goes on", x.request(1, 0), 0);
        CHECK.due("the one before stays LOST", x.request(0, 0), 2);
    }

    private static void takenWithoutRequest() {
        CHECK.sentence("TAKEN taken by the ASKER that has no REQUEST: what has no such effect is gone");
        Story x = new Story();
        x.ask(0, 0, SET, 1L);
        x.run(11);
        CHECK.due("it is DONE", x.request(0, 0), 1);
        CHECK.message("a third TAKEN", x, 0, 3, 0, 2);
        CHECK.gone("TAKEN of one that is DONE", x, 0);
        Story given = new Story();
        given.ask(0, 0, SET, 1L);
        given.run(9);
        given.give(0);
        CHECK.gone("TAKEN of one that is LOST", given, 0);
        given.runAll();
        CHECK.due("it stays LOST", given.request(0, 0), 2);
    }

    private static void takenTwice() {
        CHECK.sentence("TAKEN: and this KEEPER did not answer that yet");
        Story x = new Story();
        x.ask(0, 0, SET, 1L);
        x.run(9);
        x.twice(0);
        x.take(0);
        CHECK.due("one counts, who has PROMISED, too", x.asker(0, 3), 1);
        CHECK.gone("TAKEN of the same KEEPER", x, 2);
        x.take(2);
        CHECK.due("the second does not count", x.asker(0, 3), 1);
        CHECK.due("it goes on", x.request(0, 0), 0);
        x.take(0);
        CHECK.due("that of another KEEPER is enough", x.request(0, 0), 1);
    }

    private static void takenEnough() {
        CHECK.sentence("TAKEN: it counts. With enough the REQUEST is DONE");
        for (int enough = 1; enough <= 9; enough++) {
            Story x = new Story();
            x.plan(0, 0, 1, 1);
            x.plan(0, 1, 511, enough);
            x.ask(0, 0, SET, 1L);
            x.run(11);
            for (int n = 1; n < enough; n++) {
                x.run(1);
                CHECK.due(n + " of " + enough + " count", x.asker(0, 3), n);
                CHECK.due(n + " of " + enough + " are not enough", x.request(0, 0), 0);
            }
            x.run(1);
            CHECK.due(enough + " are enough", x.request(0, 0), 1);
            CHECK.due(enough + ": the ASKER has none", x.asker(0, 1), -1);
            CHECK.due(enough + ": nothing is sent", x.messages(), 9 - enough);
        }
    }

    private static void doneWithTheNewState() {
        CHECK.sentence("the REQUEST is DONE, with the new STATE, and whether the CHANGE FAILED");
        Story x = new Story();
        x.change(0, 0, SET, 8L);
        CHECK.due("not FAILED", x.request(0, 1), 0);
        CHECK.due("VERSION", x.request(0, 2), 1);
        CHECK.due("VALUE", x.result(0), 8);
        x.ask(0, 0, BEGIN, 9L);
        x.run(10);
        CHECK.due("not told before it is DONE", x.request(1, 1), 0);
        x.run(1);
        CHECK.due("FAILED", x.request(1, 1), 1);
        CHECK.due("the same VERSION", x.request(1, 2), 1);
        CHECK.due("the same VALUE", x.result(1), 8);
    }

    /** Keeper 0 PROMISED the asker's ballot of count 5; nothing is in the row. */
    private static Story promiseOfCount5(int asker) {
        Story x = new Story();
        x.planOne(0, 0).planOne(1, 0).planOne(2, 0).planOne(3, 0);
        for (int n = 0; n < 5; n++) {
            x.ask(asker, 0, READ, 0L);
            x.give(asker);
        }
        x.runAll();
        return x;
    }

    private static void refusedRaisesToAFourth() {
        CHECK.sentence("REFUSED: its count is at least a fourth of the BALLOT told, rounded down");
        for (int asker = 0; asker < 4; asker++) {
            Story x = promiseOfCount5(asker);
            int other = (asker + 1) % 4;
            x.ask(other, 0, READ, 0L);
            x.run(1);
            CHECK.message("told", x, 0, 4, other, 0, 5, 20 + asker, -1);
            x.run(1);
            CHECK.due("the count, told " + (20 + asker), x.asker(other, 0), 5);
            CHECK.due("the count of the other one", x.asker(asker, 0), 5);
            x.ask(other, 0, READ, 0L);
            CHECK.due("the next BALLOT", x.request(6, 3), 24 + other);
        }
    }

    private static void refusedLeavesAGreaterCount() {
        CHECK.sentence("REFUSED: its count is at least that: a count that is so great, or greater, stays");
        for (int count = 4; count <= 7; count++) {
            Story x = promiseOfCount5(3);
            x.ask(0, 0, READ, 0L);
            x.run(1);
            CHECK.message("told", x, 0, 4, 0, 0, 5, 23, -1);
            x.give(0);
            for (int n = 1; n < count; n++) {
                x.ask(0, 1, READ, 0L);
                x.give(0);
            }
            CHECK.due("the count before", x.asker(0, 0), count);
            x.take(0);
            CHECK.due("the count after, of " + count, x.asker(0, 0), Math.max(5, count));
        }
    }

    private static void refusedLosesThatRequest() {
        CHECK.sentence("REFUSED: if its REQUEST is that, it is LOST");
        Story preparing = promised5();
        preparing.ask(0, 0, SET, 1L);
        preparing.run(1);
        CHECK.due("it goes on", preparing.request(1, 0), 0);
        preparing.run(1);
        CHECK.due("LOST while PREPARING", preparing.request(1, 0), 2);
        CHECK.due("the ASKER has none", preparing.asker(0, 1), -1);
        CHECK.due("another ASKER's goes on", preparing.asker(1, 1), 0);

        Story accepting = accept5();
        accepting.ask(2, 0, SET, 1L);
        accepting.take(1);
        accepting.take(0);
        accepting.take(1);
        CHECK.due("LOST while ACCEPTING", accepting.request(0, 0), 2);
        CHECK.due("the ASKER has none", accepting.asker(1, 1), -1);

        Story own = refusedWhileAccepting();
        CHECK.due("one that comes again is REFUSED: it goes on", own.request(0, 0), 0);
        own.take(1);
        CHECK.due("LOST by its own BALLOT", own.request(0, 0), 2);
        CHECK.due("the count stays", own.asker(1, 0), 1);
    }

    /** The row has the ACCEPT 5 of asker 1, and REFUSED for a PREPARE of it that came again. */
    private static Story refusedWhileAccepting() {
        Story x = new Story();
        x.planOne(1, 0).ask(1, 0, SET, 9L);
        x.twice(0);
        x.take(0);
        x.take(1);
        x.take(0);
        CHECK.message("ACCEPT", x, 0, 2, 1, 0, 0, 5, 1);
        CHECK.message("REFUSED", x, 1, 4, 1, 0, 0, 5, -1);
        return x;
    }

    private static void refusedOfAnotherRequest() {
        CHECK.sentence("REFUSED: if its REQUEST is that: another one is not LOST");
        Story x = promiseOfCount5(3);
        x.ask(0, 0, READ, 0L);
        x.run(1);
        x.give(0);
        x.ask(0, 1, SET, 4L);
        CHECK.message("of the one before", x, 0, 4, 0, 0, 5, 23, -1);
        x.take(0);
        CHECK.due("it goes on", x.request(6, 0), 0);
        CHECK.due("the ASKER has it", x.asker(0, 1), 6);
        CHECK.due("the count is raised, though", x.asker(0, 0), 5);
        CHECK.due("its BALLOT stays", x.request(6, 3), 8);
        x.runAll();
        CHECK.due("it is DONE", x.request(6, 0), 1);
        CHECK.due("with its BALLOT", x.keeper(0, 1, 1), 8);
    }

    private static void refusedWithoutRequest() {
        CHECK.sentence("REFUSED taken by the ASKER that has no REQUEST: its count is raised");
        Story x = promiseOfCount5(3);
        x.ask(0, 0, READ, 0L);
        x.run(1);
        x.give(0);
        x.take(0);
        CHECK.due("the count", x.asker(0, 0), 5);
        CHECK.due("none yet", x.asker(0, 1), -1);
        CHECK.due("nothing is sent", x.messages(), 0);

        Story done = new Story();
        done.ask(0, 0, SET, 1L);
        done.twice(2);
        done.take(2);
        done.take(2);
        CHECK.message("REFUSED", done, 3, 4, 0, 2, 0, 4, -1);
        done.take(0);
        done.take(1);
        done.take(2);
        for (int i = 0; i < 6; i++) {
            done.take(done.messages() - 1);
        }
        CHECK.due("it is DONE", done.request(0, 0), 1);
        done.runAll();
        CHECK.due("a REFUSED behind that leaves it so", done.request(0, 0), 1);
        CHECK.due("and the count", done.asker(0, 0), 1);
    }

    private static void lostMayYetComeToBe() {
        CHECK.sentence("it is LOST (it may yet come to be: what was sent stays)");
        Story x = refusedWhileAccepting();
        x.take(1);
        CHECK.due("it is LOST", x.request(0, 0), 2);
        CHECK.due("what was sent stays", x.messages(), 1);
        CHECK.due("it is taken", x.take(0), 2);
        CHECK.due("and kept", x.kept(0, 0), 9);
        CHECK.due("TAKEN is sent back", x.take(0), 3);
        CHECK.due("it stays LOST", x.request(0, 0), 2);
        CHECK.due("its VALUE is not told", x.result(0), 0);
        int r = x.change(2, 0, READ, 0L);
        CHECK.due("what it was to make is there", x.result(r), 9);
        CHECK.due("with its VERSION", x.request(r, 2), 1);
    }

    private static void downTakesNothing() {
        CHECK.sentence("A KEEPER that is DOWN takes nothing: what is taken by it is gone");
        Story prepare = new Story();
        prepare.ask(0, 0, SET, 9L);
        prepare.down(0, true);
        CHECK.gone("PREPARE", prepare, 0);
        prepare.down(0, false);
        prepare.take(0);
        CHECK.due("not DOWN, it takes it", prepare.keeper(0, 0, 0), 4);

        Story accept = accept5();
        accept.down(0, true);
        CHECK.gone("ACCEPT", accept, 0);
        accept.down(0, false);
        accept.take(0);
        CHECK.due("not DOWN, it takes it", accept.keeper(0, 0, 1), 5);

        Story refuse = promised5();
        refuse.ask(0, 0, SET, 9L);
        refuse.down(0, true);
        CHECK.gone("a PREPARE that it would have refused", refuse, 0);

        Story other = new Story();
        other.ask(0, 0, SET, 9L);
        other.down(1, true);
        other.take(0);
        CHECK.due("one that is not DOWN takes it", other.keeper(0, 0, 0), 4);
    }

    private static void downAnswersCount() {
        CHECK.sentence("A KEEPER that is DOWN takes nothing: what the ASKER takes from it counts");
        Story x = new Story();
        x.ask(0, 0, SET, 9L);
        x.run(3);
        x.down(0, true);
        x.run(1);
        CHECK.due("PROMISED counts", x.asker(0, 3), 1);
        x.down(0, false);
        x.run(5);
        x.down(0, true);
        x.down(1, true);
        CHECK.message("TAKEN", x, 0, 3, 0, 0);
        x.run(1);
        CHECK.due("TAKEN counts", x.asker(0, 3), 1);
        x.run(1);
        CHECK.due("it is DONE", x.request(0, 0), 1);
        Story refused = promised5();
        refused.ask(0, 0, SET, 9L);
        refused.take(0);
        refused.down(0, true);
        refused.take(0);
        CHECK.due("REFUSED loses it", refused.request(1, 0), 2);
    }
}
