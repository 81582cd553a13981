/** Promises 5 to 8, 11 and 12: take, run, lose, twice, messages, message; and what each sort does. */
public final class MessagesTest {
    private static final Check CHECK = new Check("MessagesTest");
    private static final int MIN = Integer.MIN_VALUE;
    private static final int MAX = Integer.MAX_VALUE;

    public static void main(String[] args) {
        CHECK.test("takeEachSort", MessagesTest::takeEachSort);
        CHECK.test("takeInAnyOrder", MessagesTest::takeInAnyOrder);
        CHECK.test("promisedTwiceCountsOnce", MessagesTest::promisedTwiceCountsOnce);
        CHECK.test("takenTwiceCountsOnce", MessagesTest::takenTwiceCountsOnce);
        CHECK.test("lateAnswersAreGone", MessagesTest::lateAnswersAreGone);
        CHECK.test("prepareTwiceIsRefused", MessagesTest::prepareTwiceIsRefused);
        CHECK.test("acceptTwiceIsTakenTwice", MessagesTest::acceptTwiceIsTakenTwice);
        CHECK.test("acceptWithoutPromise", MessagesTest::acceptWithoutPromise);
        CHECK.test("acceptBelowThePromise", MessagesTest::acceptBelowThePromise);
        CHECK.test("acceptBelowTheAccepted", MessagesTest::acceptBelowTheAccepted);
        CHECK.test("prepareBelowTheAccepted", MessagesTest::prepareBelowTheAccepted);
        CHECK.test("refusedRaisesTheCount", MessagesTest::refusedRaisesTheCount);
        CHECK.test("refusedOfAnEndedRequest", MessagesTest::refusedOfAnEndedRequest);
        CHECK.test("refusedNeverLowersTheCount", MessagesTest::refusedNeverLowersTheCount);
        CHECK.test("greatestBallotIsChanged", MessagesTest::greatestBallotIsChanged);
        CHECK.test("answersAtTheRim", MessagesTest::answersAtTheRim);
        CHECK.test("run", MessagesTest::run);
        CHECK.test("lose", MessagesTest::lose);
        CHECK.test("twice", MessagesTest::twice);
        CHECK.test("refusesWrongIndexes", MessagesTest::refusesWrongIndexes);
        CHECK.end();
    }

    private static void takeEachSort() {
        Story x = new Story();
        x.plan(0, 0, 1, 1);
        x.plan(0, 1, 1, 1);
        x.ask(0, 0, 2, 5L);
        CHECK.message("12: parts", x, 0, 0, 0, 0, 0, 4, -1);
        CHECK.due("5: PREPARE", x.take(0), 0);
        CHECK.message("12: parts", x, 0, 1, 0, 0, 0, 0, -1);
        CHECK.due("5: PROMISED", x.take(0), 1);
        CHECK.message("12: parts", x, 0, 2, 0, 0, 0, 4, 1);
        CHECK.due("5: ACCEPT", x.take(0), 2);
        CHECK.message("12: parts", x, 0, 3, 0, 0, 0, 4, -1);
        CHECK.due("5: TAKEN", x.take(0), 3);
        CHECK.due("11: none is left", x.messages(), 0);

        x.ask(0, 0, 2, 6L);
        x.take(0);
        CHECK.message("12: parts", x, 0, 1, 0, 0, 1, 4, 1);
        x.take(0);
        CHECK.message("12: parts", x, 0, 2, 0, 0, 1, 8, 2);
        x.ask(1, 0, 0, 0L);
        x.take(0);
        x.take(2);
        CHECK.message("12: parts", x, 2, 3, 0, 0, 1, 8, -1);
        x.twice(0);
        x.take(0);
        CHECK.message("12: parts", x, 4, 4, 1, 0, 2, 8, -1);
        CHECK.due("5: REFUSED", x.take(4), 4);
        CHECK.due("5: it is lost", x.request(2, 0), 2);
    }

    private static void takeInAnyOrder() {
        Story x = new Story();
        x.ask(2, 1, 1, 9L);
        CHECK.due("5: the last", x.take(2), 0);
        CHECK.message("12: parts", x, 0, 0, 2, 0, 0, 6, -1);
        CHECK.message("12: parts", x, 1, 0, 2, 1, 0, 6, -1);
        CHECK.message("12: parts", x, 2, 1, 2, 2, 0, 0, -1);
        CHECK.due("5: the middle", x.take(1), 0);
        CHECK.message("12: parts", x, 0, 0, 2, 0, 0, 6, -1);
        CHECK.message("12: parts", x, 1, 1, 2, 2, 0, 0, -1);
        CHECK.message("12: parts", x, 2, 1, 2, 1, 0, 0, -1);
        x.take(2);
        CHECK.due("5: one counts", x.asker(2, 3), 1);
        x.take(1);
        CHECK.due("5: accepting", x.asker(2, 2), 1);
        CHECK.due("5: the answers begin anew", x.asker(2, 3), 0);
        for (int i = 0; i < 3; i++) {
            CHECK.message("12: parts", x, i + 1, 2, 2, i, 0, 6, 1);
        }
        CHECK.due("11: four", x.messages(), 4);
    }

    private static void promisedTwiceCountsOnce() {
        Story x = new Story();
        x.ask(0, 0, 2, 1L);
        x.take(0);
        x.twice(2);
        x.take(2);
        CHECK.due("5: PROMISED counts", x.asker(0, 3), 1);
        CHECK.due("5: the same again", x.take(2), 1);
        CHECK.due("5: does not count", x.asker(0, 3), 1);
        CHECK.due("5: nor is it enough", x.asker(0, 2), 0);
        CHECK.due("5: and it is gone", x.messages(), 2);
    }

    private static void takenTwiceCountsOnce() {
        Story x = new Story();
        x.ask(0, 0, 2, 1L);
        x.run(7);
        x.take(0);
        CHECK.due("5: TAKEN", x.message(2, 0), 3);
        x.twice(2);
        x.take(2);
        CHECK.due("5: TAKEN counts", x.asker(0, 3), 1);
        x.take(2);
        CHECK.due("5: not again", x.asker(0, 3), 1);
        CHECK.due("5: it goes on", x.request(0, 0), 0);
        CHECK.due("16: not done, so no version", x.request(0, 2), -1);
        CHECK.due("17: nor a value", x.result(0), 0);
        x.runAll();
        CHECK.due("5: the second keeper's is enough", x.request(0, 0), 1);
    }

    private static void lateAnswersAreGone() {
        Story x = new Story();
        x.ask(0, 0, 2, 1L);
        x.run(5);
        CHECK.due("5: accepting", x.asker(0, 2), 1);
        CHECK.due("5: a third PROMISED", x.take(0), 1);
        CHECK.due("5: counts for no step", x.asker(0, 3), 0);
        x.run(5);
        CHECK.due("5: done", x.request(0, 0), 1);
        x.ask(0, 0, 4, 1L);
        String before = x.view();
        CHECK.due("5: TAKEN of the last one", x.take(0), 3);
        CHECK.due("5: does not count for this", x.asker(0, 3), 0);
        CHECK.due("5: one message less", before.length() > x.view().length(), true);
        x.run(3);
        x.give(0);
        x.ask(0, 1, 2, 3L);
        CHECK.due("5: PROMISED of one that was given up", x.take(0), 1);
        CHECK.due("5: does not count", x.asker(0, 3), 0);
        x.runAll();
        CHECK.due("5: the one that was given up stays so", x.request(1, 0), 2);
        CHECK.due("5: this one is done", x.request(2, 0), 1);
    }

    private static void prepareTwiceIsRefused() {
        Story x = new Story();
        x.ask(1, 0, 2, 1L);
        x.twice(0);
        x.take(0);
        CHECK.due("5: promised", x.keeper(0, 0, 0), 5);
        x.take(2);
        CHECK.message("12: parts", x, 3, 4, 1, 0, 0, 5, -1);
        CHECK.due("5: the promise stays", x.keeper(0, 0, 0), 5);
        x.take(3);
        CHECK.due("5: refused, so it is lost", x.request(0, 0), 2);
        CHECK.due("5: the count is no less", x.asker(1, 0), 1);
    }

    private static void acceptTwiceIsTakenTwice() {
        Story x = new Story();
        x.ask(0, 0, 2, 3L);
        x.run(6);
        x.twice(0);
        x.take(0);
        CHECK.due("5: no promise then", x.keeper(0, 0, 0), 0);
        CHECK.due("5: accepted", x.keeper(0, 0, 1), 4);
        x.take(2);
        CHECK.due("5: the same ballot is taken again", x.message(3, 0), 3);
        CHECK.due("5: the same value", x.kept(0, 0), 3);
    }

    private static void acceptWithoutPromise() {
        Story x = new Story();
        x.plan(0, 1, 1 << 8, 1);
        x.ask(0, 3, 2, -4L);
        x.runAll();
        CHECK.due("5: one that promised nothing accepts", x.kept(8, 3), -4);
        CHECK.due("5: with the ballot", x.keeper(8, 3, 1), 4);
        CHECK.due("5: other keys have none", x.keeper(8, 2, 1), 0);
    }

    private static void acceptBelowThePromise() {
        Story x = new Story();
        x.ask(0, 0, 2, 1L);
        x.run(6);
        x.ask(1, 0, 2, 2L);
        x.take(3);
        CHECK.due("5: a greater promise", x.keeper(0, 0, 0), 5);
        x.take(0);
        CHECK.message("12: parts", x, 5, 4, 0, 0, 0, 5, -1);
        CHECK.due("5: nothing is accepted", x.keeper(0, 0, 1), 0);
        CHECK.due("5: the promise stays", x.keeper(0, 0, 0), 5);
        x.take(5);
        CHECK.due("5: lost while accepting", x.request(0, 0), 2);
        x.runAll();
        CHECK.due("5: the greater ballot is done", x.request(1, 0), 1);
    }

    private static void acceptBelowTheAccepted() {
        Story x = new Story();
        x.ask(0, 0, 2, 1L);
        x.run(6);
        x.ask(1, 0, 2, 2L);
        CHECK.due("5: the accepts wait", x.messages(), 6);
        for (int i = 0; i < 6; i++) {
            x.take(3);
        }
        for (int i = 0; i < 3; i++) {
            x.take(3);
        }
        CHECK.due("5: the greater one is accepted", x.keeper(0, 0, 1), 5);
        CHECK.due("5: and no promise stands", x.keeper(0, 0, 0), 0);
        x.take(0);
        CHECK.due("5: the lesser one is refused", x.message(x.messages() - 1, 0), 4);
        CHECK.due("5: and told the accepted", x.message(x.messages() - 1, 4), 5);
        CHECK.due("5: the value stays", x.kept(0, 0), 2);
        CHECK.due("5: the promise stays 0", x.keeper(0, 0, 0), 0);
    }

    private static void prepareBelowTheAccepted() {
        Story x = new Story();
        x.ask(1, 0, 2, 2L);
        x.runAll();
        x.ask(0, 0, 2, 1L);
        CHECK.due("5: a ballot below the accepted", x.request(1, 3), 4);
        x.take(0);
        CHECK.message("12: parts", x, 2, 4, 0, 0, 1, 5, -1);
        CHECK.due("5: no promise", x.keeper(0, 0, 0), 0);
        CHECK.due("5: another key's is not refused", x.ask(2, 1, 0, 0L), 2);
        x.take(3);
        CHECK.due("5: promised", x.keeper(0, 1, 0), 6);
    }

    private static void refusedRaisesTheCount() {
        Story x = new Story();
        for (int i = 0; i < 5; i++) {
            x.ask(3, 0, 0, 0L);
            x.give(3);
        }
        x.runAll();
        CHECK.due("5: the promise", x.keeper(0, 0, 0), 23);
        x.ask(0, 0, 2, 1L);
        x.runAll();
        CHECK.due("5: a fourth, rounded down", x.asker(0, 0), 5);
        CHECK.due("5: lost", x.request(5, 0), 2);
        CHECK.due("5: the next", x.ask(0, 0, 2, 1L), 6);
        CHECK.due("5: its ballot is above", x.request(6, 3), 24);
        x.runAll();
        CHECK.due("5: and it is done", x.request(6, 0), 1);
    }

    private static void refusedOfAnEndedRequest() {
        Story x = new Story();
        for (int i = 0; i < 5; i++) {
            x.ask(3, 0, 0, 0L);
            x.give(3);
        }
        x.runAll();
        x.ask(0, 0, 2, 1L);
        x.run(3);
        x.give(0);
        x.ask(0, 1, 2, 2L);
        CHECK.due("5: count before", x.asker(0, 0), 2);
        CHECK.due("5: REFUSED of the one before", x.take(0), 4);
        CHECK.due("5: raises the count, too", x.asker(0, 0), 5);
        CHECK.due("5: but not this one is lost", x.asker(0, 1), 6);
        CHECK.due("5: whose ballot stays", x.request(6, 3), 8);
        x.runAll();
        CHECK.due("5: and which is done", x.request(6, 0), 1);
        CHECK.due("5: the one before stays lost", x.request(5, 0), 2);
    }

    private static void refusedNeverLowersTheCount() {
        Story x = new Story();
        x.ask(0, 0, 0, 0L);
        x.twice(0);
        x.take(3);
        x.take(0);
        x.give(0);
        x.ask(0, 0, 0, 0L);
        x.give(0);
        x.ask(0, 0, 0, 0L);
        CHECK.message("12: parts", x, 3, 4, 0, 0, 0, 4, -1);
        CHECK.due("5: an old REFUSED", x.take(3), 4);
        CHECK.due("5: the count stays", x.asker(0, 0), 3);
        CHECK.due("5: and the request goes on", x.asker(0, 1), 2);
    }

    /** Keeper 0 has ballot 4 and keeper 1 ballot 9; whichever answers last, the state of 9 is changed. */
    private static void greatestBallotIsChanged() {
        for (int first = 0; first < 2; first++) {
            Story x = new Story();
            x.plan(0, 0, 0b11, 2);
            x.plan(0, 1, 0b01, 1);
            x.ask(0, 0, 2, 100L);
            x.runAll();
            x.plan(1, 0, 0b10, 1);
            x.plan(1, 1, 0b10, 1);
            x.ask(1, 0, 2, 7L);
            x.runAll();
            x.ask(1, 0, 2, 70L);
            x.runAll();
            x.ask(0, 0, 4, 1L);
            x.give(0);
            x.lose(0);
            x.lose(0);
            x.ask(0, 0, 4, 1L);
            x.take(first);
            x.take(0);
            CHECK.due("12: PROMISED tells the accepted ballot", x.message(first, 4), 4);
            CHECK.due("12: the other one's", x.message(1 - first, 4), 9);
            CHECK.due("12: and the version", x.message(1 - first, 5), 2);
            x.take(0);
            x.take(0);
            CHECK.message("12: parts", x, 0, 2, 0, 0, 4, 12, 3);
            x.runAll();
            CHECK.due("5: the greatest is changed", x.result(4), 71);
        }
    }

    /** At 300 messages what is taken leaves its room to the first that is sent. */
    private static void answersAtTheRim() {
        Story x = new Story();
        x.ask(0, 0, 2, 1L);
        x.take(0);
        x.take(0);
        x.fill(0, 300);
        x.take(0);
        CHECK.due("5: the answer has room", x.messages(), 300);
        CHECK.message("12: parts", x, 299, 1, 0, 2, 0, 0, -1);
        CHECK.message("12: parts", x, 0, 1, 0, 0, 0, 0, -1);
        x.take(0);
        CHECK.due("5: nothing is sent", x.messages(), 299);
        x.twice(1);
        x.take(0);
        CHECK.due("5: one of three has room", x.messages(), 300);
        CHECK.due("5: accepting, though", x.asker(0, 2), 1);
        CHECK.message("12: parts", x, 299, 2, 0, 0, 0, 4, 1);
        CHECK.due("11: still 300", x.messages(), 300);
    }

    private static void run() {
        Story x = new Story();
        CHECK.due("6: none there", x.run(1000), 0);
        x.ask(0, 0, 2, 4L);
        CHECK.due("6: 0", x.run(0), 0);
        CHECK.due("6: 0 takes none", x.messages(), 3);
        CHECK.due("6: 1", x.run(1), 1);
        CHECK.due("6: the first is taken", x.message(0, 2), 1);
        CHECK.due("6: what is sent lies behind", x.message(2, 0), 1);
        CHECK.due("6: all, with those that are sent meanwhile", x.run(1000), 11);
        CHECK.due("6: none is left", x.messages(), 0);
        CHECK.due("6: done", x.request(0, 0), 1);
        for (int wrong : new int[] {-1, 1001, MIN, MAX}) {
            CHECK.illegal("6: n " + wrong, x, s -> s.run(wrong));
        }
    }

    private static void lose() {
        Story x = new Story();
        x.ask(0, 0, 2, 4L);
        x.take(0);
        CHECK.due("7: the middle", x.lose(1), 0);
        CHECK.due("7: no effect", x.keeper(2, 0, 0), 0);
        CHECK.due("7: two left", x.messages(), 2);
        CHECK.message("12: parts", x, 0, 0, 0, 1);
        CHECK.message("12: parts", x, 1, 1, 0, 0);
        CHECK.due("7: the last", x.lose(1), 1);
        CHECK.due("7: it does not count", x.asker(0, 3), 0);
        CHECK.due("7: the first", x.lose(0), 0);
        CHECK.due("7: none left", x.messages(), 0);
        CHECK.due("7: the request goes on", x.request(0, 0), 0);
    }

    private static void twice() {
        Story x = new Story();
        x.ask(3, 2, 2, 4L);
        CHECK.due("8: twice", x.twice(1), 4);
        CHECK.message("12: parts", x, 3, 0, 3, 1, 0, 7, -1);
        CHECK.message("12: parts", x, 1, 0, 3, 1, 0, 7, -1);
        x.lose(0);
        x.run(5);
        CHECK.due("8: a PREPARE that came again is taken, too", x.message(0, 0), 4);
        for (int before = x.messages(); before < 300; before++) {
            CHECK.due("8: one more", x.twice(before - 1), before + 1);
        }
        CHECK.none("8: 300", x, s -> s.twice(0));
        CHECK.none("8: 300, the last", x, s -> s.twice(299));
        CHECK.outOfBounds("8: index before NONE", x, s -> s.twice(300));

        Story accepting = new Story();
        accepting.ask(0, 0, 2, 44L);
        accepting.run(6);
        accepting.twice(1);
        CHECK.message("12: parts", accepting, 3, 2, 0, 1, 0, 4, 1);
        accepting.lose(0);
        accepting.lose(0);
        accepting.lose(0);
        accepting.take(0);
        CHECK.due("8: the one that came again tells the state", accepting.kept(1, 0), 44);
    }

    private static void refusesWrongIndexes() {
        Story empty = new Story();
        CHECK.outOfBounds("5: empty", empty, s -> s.take(0));
        CHECK.outOfBounds("7: empty", empty, s -> s.lose(0));
        CHECK.outOfBounds("8: empty", empty, s -> s.twice(0));
        CHECK.outOfBounds("12: empty", empty, s -> s.message(0, 0));
        Story x = new Story();
        x.ask(0, 0, 2, 4L);
        for (int wrong : new int[] {-1, 3, 299, 300, 301, MIN, MAX}) {
            CHECK.outOfBounds("5: " + wrong, x, s -> s.take(wrong));
            CHECK.outOfBounds("7: " + wrong, x, s -> s.lose(wrong));
            CHECK.outOfBounds("8: " + wrong, x, s -> s.twice(wrong));
            CHECK.outOfBounds("12: " + wrong, x, s -> s.message(wrong, 0));
        }
        for (int wrong : new int[] {-1, 6, MIN, MAX}) {
            CHECK.outOfBounds("12: what " + wrong, x, s -> s.message(0, wrong));
        }
    }
}
