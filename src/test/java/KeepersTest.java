/** Promises 9, 10, 13 and 14: down, copy, keeper, kept. */
public final class KeepersTest {
    private static final Check CHECK = new Check("KeepersTest");
    private static final int[] NO_KEEPERS = {-1, 9, Integer.MIN_VALUE, Integer.MAX_VALUE};
    private static final int[] NO_KEYS = {-1, 4, Integer.MIN_VALUE, Integer.MAX_VALUE};

    public static void main(String[] args) {
        CHECK.test("down", KeepersTest::down);
        CHECK.test("downTakesNothing", KeepersTest::downTakesNothing);
        CHECK.test("downKeeps", KeepersTest::downKeeps);
        CHECK.test("copy", KeepersTest::copy);
        CHECK.test("copyOfAllKeys", KeepersTest::copyOfAllKeys);
        CHECK.test("copyTakesTheGreaterPromise", KeepersTest::copyTakesTheGreaterPromise);
        CHECK.test("copyLeavesAnEqualOrLesserOne", KeepersTest::copyLeavesAnEqualOrLesserOne);
        CHECK.test("copyOfAbsence", KeepersTest::copyOfAbsence);
        CHECK.test("keeperAndKept", KeepersTest::keeperAndKept);
        CHECK.test("refuses", KeepersTest::refuses);
        CHECK.end();
    }

    private static void down() {
        Story x = new Story();
        for (int keeper = 0; keeper < 9; keeper++) {
            CHECK.due("9: was not", x.down(keeper, true), false);
            CHECK.due("9: was", x.down(keeper, true), true);
            CHECK.due("9: was", x.down(keeper, false), true);
            CHECK.due("9: was not", x.down(keeper, false), false);
        }
        x.down(4, true);
        CHECK.due("9: only that one", x.down(3, false), false);
        CHECK.due("9: only that one", x.down(5, false), false);
        CHECK.due("9: that one", x.down(4, false), true);
    }

    private static void downTakesNothing() {
        Story x = new Story();
        x.ask(0, 0, 2, 6L);
        x.down(0, true);
        CHECK.due("9: PREPARE is taken", x.take(0), 0);
        CHECK.due("9: and gone", x.messages(), 2);
        CHECK.due("9: no promise", x.keeper(0, 0, 0), 0);
        x.run(4);
        CHECK.due("9: the accepts", x.messages(), 3);
        CHECK.due("9: ACCEPT is taken", x.take(0), 2);
        CHECK.due("9: and gone", x.messages(), 2);
        CHECK.due("9: nothing accepted", x.keeper(0, 0, 1), 0);
        x.runAll();
        CHECK.due("9: two others are enough", x.request(0, 0), 1);

        Story told = new Story();
        told.ask(0, 0, 2, 6L);
        told.run(3);
        told.down(0, true);
        told.down(1, true);
        told.down(2, true);
        told.run(3);
        CHECK.due("9: an answer on its way counts", told.asker(0, 2), 1);
        CHECK.due("9: all accepts are gone", told.runAll(), 3);
        CHECK.due("9: it goes on", told.request(0, 0), 0);
    }

    private static void downKeeps() {
        Story x = new Story();
        x.ask(0, 0, 2, 6L);
        x.runAll();
        x.ask(0, 0, 2, 6L);
        x.take(0);
        x.down(0, true);
        CHECK.due("9: the promise", x.keeper(0, 0, 0), 8);
        CHECK.due("9: the ballot", x.keeper(0, 0, 1), 4);
        CHECK.due("9: the version", x.keeper(0, 0, 2), 1);
        CHECK.due("9: the value", x.kept(0, 0), 6);
        x.down(0, false);
        CHECK.due("9: afterwards, too", x.keeper(0, 0, 0), 8);
        CHECK.due("9: one that is down can be copied from", downCopy(true, false), 1);
        CHECK.due("9: and copied to", downCopy(false, true), 1);
    }

    private static int downCopy(boolean fromDown, boolean toDown) {
        Story x = new Story();
        x.ask(0, 0, 2, 6L);
        x.runAll();
        x.down(0, fromDown);
        x.down(5, toDown);
        return x.copy(5, 0);
    }

    private static void copy() {
        Story x = new Story();
        CHECK.due("10: nothing accepted", x.copy(1, 0), 0);
        x.ask(0, 2, 2, 6L);
        x.runAll();
        CHECK.due("10: one key", x.copy(8, 1), 1);
        CHECK.due("10: ballot", x.keeper(8, 2, 1), 4);
        CHECK.due("10: version", x.keeper(8, 2, 2), 1);
        CHECK.due("10: value", x.kept(8, 2), 6);
        CHECK.due("10: promise", x.keeper(8, 2, 0), 0);
        CHECK.due("10: again", x.copy(8, 1), 0);
        CHECK.due("10: to itself", x.copy(1, 1), 0);
        CHECK.due("10: the other one stays", x.kept(1, 2), 6);
        x.ask(0, 2, 2, 7L);
        x.runAll();
        CHECK.due("10: a copy is not tied", x.kept(8, 2), 6);
        CHECK.due("10: a greater one", x.copy(8, 1), 1);
        CHECK.due("10: its value", x.kept(8, 2), 7);
    }

    private static void copyOfAllKeys() {
        Story x = new Story();
        for (int key = 0; key < 4; key++) {
            x.ask(0, key, 2, 10L + key);
            x.runAll();
            CHECK.due("10: as many keys", x.copy(3 + key, 0), key + 1);
        }
        for (int key = 0; key < 4; key++) {
            CHECK.due("10: key " + key, x.kept(6, key), 10 + key);
        }
        CHECK.due("10: those that are missing", x.copy(4, 6), 2);
    }

    private static void copyTakesTheGreaterPromise() {
        Story x = new Story();
        x.ask(0, 0, 2, 6L);
        x.runAll();
        x.ask(0, 0, 2, 7L);
        x.take(0);
        CHECK.due("10: the promise there", x.keeper(0, 0, 0), 8);
        CHECK.due("10: copy", x.copy(5, 0), 1);
        CHECK.due("10: that one's is the greater", x.keeper(5, 0, 0), 8);
        CHECK.due("10: with what was accepted", x.keeper(5, 0, 1), 4);

        Story own = new Story();
        own.ask(0, 0, 2, 6L);
        own.runAll();
        own.plan(3, 0, 1 << 5, 1);
        own.ask(3, 0, 2, 7L);
        own.take(0);
        CHECK.due("10: the promise here", own.keeper(5, 0, 0), 7);
        CHECK.due("10: copy", own.copy(5, 0), 1);
        CHECK.due("10: its own is the greater", own.keeper(5, 0, 0), 7);
        CHECK.due("10: with what was accepted", own.keeper(5, 0, 1), 4);
    }

    private static void copyLeavesAnEqualOrLesserOne() {
        Story x = new Story();
        x.ask(0, 0, 2, 6L);
        x.runAll();
        x.ask(0, 0, 2, 7L);
        x.take(0);
        String before = x.view();
        CHECK.due("10: equal", x.copy(1, 0), 0);
        CHECK.same("10: the promise is not copied alone", x.view(), before);
        CHECK.due("10: from one that has none", x.copy(0, 7), 0);
        CHECK.same("10: nothing is taken away", x.view(), before);
    }

    private static void copyOfAbsence() {
        Story x = new Story();
        x.ask(0, 0, 2, 6L);
        x.runAll();
        x.copy(4, 0);
        x.ask(0, 0, 5, 0L);
        x.runAll();
        CHECK.due("10: absent with a greater ballot", x.copy(4, 0), 1);
        CHECK.due("10: is absent then", x.keeper(4, 0, 2), -1);
        CHECK.due("10: with its ballot", x.keeper(4, 0, 1), 8);
        CHECK.due("10: value", x.kept(4, 0), 0);
    }

    private static void keeperAndKept() {
        Story x = new Story();
        x.plan(2, 0, 1 << 8, 1);
        x.plan(2, 1, 1 << 8, 1);
        x.ask(2, 3, 2, Long.MIN_VALUE);
        x.take(0);
        CHECK.due("13: promise", x.keeper(8, 3, 0), 6);
        CHECK.due("13: nothing accepted", x.keeper(8, 3, 1), 0);
        CHECK.due("13: absent", x.keeper(8, 3, 2), -1);
        CHECK.due("14: absent", x.kept(8, 3), 0);
        x.runAll();
        CHECK.due("13: no promise", x.keeper(8, 3, 0), 0);
        CHECK.due("13: accepted", x.keeper(8, 3, 1), 6);
        CHECK.due("13: version", x.keeper(8, 3, 2), 1);
        CHECK.due("14: value", x.kept(8, 3), Long.MIN_VALUE);
        x.ask(2, 3, 5, 0L);
        x.runAll();
        CHECK.due("13: taken away", x.keeper(8, 3, 2), -1);
        CHECK.due("14: taken away", x.kept(8, 3), 0);
        CHECK.due("13: the ballot of that", x.keeper(8, 3, 1), 10);
        for (int key = 0; key < 3; key++) {
            CHECK.due("13: other keys", x.keeper(8, key, 1), 0);
        }
    }

    private static void refuses() {
        Story x = new Story();
        x.ask(0, 0, 2, 5L);
        x.runAll();
        for (int wrong : NO_KEEPERS) {
            CHECK.outOfBounds("9: " + wrong, x, s -> s.down(wrong, true));
            CHECK.outOfBounds("10: to " + wrong, x, s -> s.copy(wrong, 0));
            CHECK.outOfBounds("10: from " + wrong, x, s -> s.copy(3, wrong));
            CHECK.outOfBounds("10: both " + wrong, x, s -> s.copy(wrong, wrong));
            CHECK.outOfBounds("13: " + wrong, x, s -> s.keeper(wrong, 0, 0));
            CHECK.outOfBounds("14: " + wrong, x, s -> s.kept(wrong, 0));
        }
        for (int wrong : NO_KEYS) {
            CHECK.outOfBounds("13: key " + wrong, x, s -> s.keeper(0, wrong, 0));
            CHECK.outOfBounds("14: key " + wrong, x, s -> s.kept(0, wrong));
        }
        for (int wrong : new int[] {-1, 3, Integer.MIN_VALUE, Integer.MAX_VALUE}) {
            CHECK.outOfBounds("13: what " + wrong, x, s -> s.keeper(0, 0, wrong));
        }
        for (int keeper = 0; keeper < 9; keeper++) {
            CHECK.due("9: none was put down", x.down(keeper, false), false);
        }
    }
}
