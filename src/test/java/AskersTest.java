/** Promises 1 to 4: a new object, ask, give, plan. */
public final class AskersTest {
    private static final Check CHECK = new Check("AskersTest");
    private static final int MIN = Integer.MIN_VALUE;
    private static final int MAX = Integer.MAX_VALUE;

    public static void main(String[] args) {
        CHECK.test("newObject", AskersTest::newObject);
        CHECK.test("askBegins", AskersTest::askBegins);
        CHECK.test("askUsesTheNextCount", AskersTest::askUsesTheNextCount);
        CHECK.test("askAnswersNone", AskersTest::askAnswersNone);
        CHECK.test("askLosesWhatHasNoRoom", AskersTest::askLosesWhatHasNoRoom);
        CHECK.test("askRefuses", AskersTest::askRefuses);
        CHECK.test("give", AskersTest::give);
        CHECK.test("planOfNewRequests", AskersTest::planOfNewRequests);
        CHECK.test("planInEffectStays", AskersTest::planInEffectStays);
        CHECK.test("planRefuses", AskersTest::planRefuses);
        CHECK.end();
    }

    private static void newObject() {
        Story x = new Story();
        CHECK.due("1: messages()", x.messages(), 0);
        CHECK.due("1: requests", View.requests(x), 0);
        for (int keeper = 0; keeper < 9; keeper++) {
            for (int key = 0; key < 4; key++) {
                CHECK.due("1: promise", x.keeper(keeper, key, 0), 0);
                CHECK.due("1: accepted", x.keeper(keeper, key, 1), 0);
                CHECK.due("1: version", x.keeper(keeper, key, 2), -1);
                CHECK.due("1: value", x.kept(keeper, key), 0);
            }
            CHECK.due("1: down", x.down(keeper, false), false);
        }
        for (int asker = 0; asker < 4; asker++) {
            CHECK.due("1: count", x.asker(asker, 0), 0);
            CHECK.due("1: request", x.asker(asker, 1), -1);
            CHECK.due("1: accepting", x.asker(asker, 2), 0);
            CHECK.due("1: answers", x.asker(asker, 3), 0);
            x.ask(asker, 0, 0, 0L);
            CHECK.due("1: the first plan's set", x.messages(), 3 * (asker + 1));
        }
        Story other = new Story();
        CHECK.due("1: another object has its own state", other.messages(), 0);
    }

    private static void askBegins() {
        for (int asker = 0; asker < 4; asker++) {
            Story x = new Story();
            CHECK.due("2: ask", x.ask(asker, 3, 6, Long.MIN_VALUE), 0);
            CHECK.due("2: count", x.asker(asker, 0), 1);
            CHECK.due("2: the asker has it", x.asker(asker, 1), 0);
            CHECK.due("2: it is preparing", x.asker(asker, 2), 0);
            CHECK.due("2: going on", x.request(0, 0), 0);
            CHECK.due("2: ballot", x.request(0, 3), 4 + asker);
            CHECK.due("2: messages", x.messages(), 3);
            for (int i = 0; i < 3; i++) {
                CHECK.due("2: sort", x.message(i, 0), 0);
                CHECK.due("2: asker", x.message(i, 1), asker);
                CHECK.due("2: keeper, by number", x.message(i, 2), i);
                CHECK.due("2: request", x.message(i, 3), 0);
                CHECK.due("2: ballot told", x.message(i, 4), 4 + asker);
                CHECK.due("2: no state told", x.message(i, 5), -1);
            }
        }
    }

    private static void askUsesTheNextCount() {
        Story x = new Story();
        x.ask(3, 0, 0, 0L);
        x.give(3);
        CHECK.due("2: second", x.ask(3, 0, 0, 0L), 1);
        CHECK.due("2: second ballot", x.request(1, 3), 11);
        CHECK.due("2: numbers go on over all askers", x.ask(0, 0, 0, 0L), 2);
        CHECK.due("2: each asker has its count", x.request(2, 3), 4);
        CHECK.due("2: sent behind the others", x.message(6, 3), 2);
    }

    private static void askAnswersNone() {
        Story x = new Story();
        x.ask(1, 0, 2, 5L);
        CHECK.none("2: the asker has one", x, s -> s.ask(1, 1, 2, 5L));

        Story many = new Story();
        for (int r = 0; r < 200; r++) {
            CHECK.due("2: request " + r, many.ask(r % 4, 0, 0, 0L), r);
            many.give(r % 4);
        }
        CHECK.none("2: there were 200", many, s -> s.ask(0, 0, 0, 0L));
        CHECK.due("2: the last one stands", many.request(199, 3), 4 * 50 + 3);
    }

    private static void askLosesWhatHasNoRoom() {
        Story x = new Story();
        x.ask(0, 0, 0, 0L);
        for (int n = 4; n <= 299; n++) {
            CHECK.due("2: twice", x.twice(0), n);
        }
        CHECK.due("2: ask with room for one", x.ask(1, 0, 0, 0L), 1);
        CHECK.due("2: one has room", x.messages(), 300);
        CHECK.due("2: it is the first", x.message(299, 2), 0);
        CHECK.due("2: and of that request", x.message(299, 3), 1);
        CHECK.due("2: ask with no room", x.ask(2, 0, 0, 0L), 2);
        CHECK.due("2: none has room", x.messages(), 300);
        CHECK.due("2: the request goes on", x.request(2, 0), 0);
    }

    private static void askRefuses() {
        Story x = new Story();
        x.ask(0, 0, 2, 7L);
        for (int wrong : new int[] {-1, 4, MIN, MAX}) {
            CHECK.outOfBounds("2: asker " + wrong, x, s -> s.ask(wrong, 0, 0, 0L));
            CHECK.outOfBounds("2: key " + wrong, x, s -> s.ask(1, wrong, 0, 0L));
            CHECK.outOfBounds("2: asker, and change", x, s -> s.ask(wrong, 0, 7, 0L));
            CHECK.outOfBounds("2: key, and change", x, s -> s.ask(1, wrong, -1, 0L));
        }
        for (int wrong : new int[] {-1, 7, MIN, MAX}) {
            CHECK.illegal("2: change " + wrong, x, s -> s.ask(1, 0, wrong, 0L));
            CHECK.illegal("2: change " + wrong + " before NONE", x, s -> s.ask(0, 0, wrong, 0L));
        }
    }

    private static void give() {
        Story x = new Story();
        CHECK.due("3: none", x.give(2), -1);
        x.ask(0, 0, 2, 1L);
        x.ask(2, 0, 2, 1L);
        CHECK.due("3: give", x.give(2), 1);
        CHECK.due("3: it is lost", x.request(1, 0), 2);
        CHECK.due("3: the other goes on", x.request(0, 0), 0);
        CHECK.due("3: the asker has none", x.asker(2, 1), -1);
        CHECK.due("3: what was sent stays", x.messages(), 6);
        CHECK.none("3: again", x, s -> s.give(2));
        x.runAll();
        CHECK.due("3: answers do not bring it back", x.request(1, 0), 2);
        CHECK.due("3: a done one is none", x.give(0), -1);

        Story accepting = new Story();
        accepting.ask(1, 0, 2, 8L);
        accepting.run(6);
        CHECK.due("3: accepting", accepting.asker(1, 2), 1);
        CHECK.due("3: give while accepting", accepting.give(1), 0);
        accepting.runAll();
        CHECK.due("3: lost, though", accepting.request(0, 0), 2);
        CHECK.due("3: it came to be", accepting.kept(0, 0), 8);
        for (int wrong : new int[] {-1, 4, MIN, MAX}) {
            CHECK.outOfBounds("3: asker " + wrong, x, s -> s.give(wrong));
        }
    }

    private static void planOfNewRequests() {
        Story x = new Story();
        x.plan(1, 0, 0b101000001, 3);
        x.plan(1, 1, 0b010000000, 1);
        x.ask(1, 2, 2, 77L);
        CHECK.due("4: sent to the set", x.messages(), 3);
        CHECK.due("4: keeper 0", x.message(0, 2), 0);
        CHECK.due("4: keeper 6", x.message(1, 2), 6);
        CHECK.due("4: keeper 8", x.message(2, 2), 8);
        x.run(5);
        CHECK.due("4: two promised are not enough", x.asker(1, 2), 0);
        CHECK.due("4: two promised", x.asker(1, 3), 2);
        x.run(1);
        CHECK.due("4: three are", x.asker(1, 2), 1);
        CHECK.due("4: accept to one", x.messages(), 1);
        CHECK.due("4: to keeper 7", x.message(0, 2), 7);
        x.run(2);
        CHECK.due("4: one taken is enough", x.request(0, 0), 1);
        CHECK.due("4: keeper 7 keeps it", x.kept(7, 2), 77);
        CHECK.due("4: keeper 0 does not", x.keeper(0, 2, 2), -1);
        x.ask(0, 0, 0, 0L);
        CHECK.due("4: the others' plans stay", x.messages(), 3);

        Story all = new Story();
        all.plan(3, 0, 511, 9);
        all.plan(3, 1, 511, 9);
        all.ask(3, 0, 4, 4L);
        CHECK.due("4: nine of nine", all.runAll(), 36);
        CHECK.due("4: done", all.request(0, 0), 1);
    }

    private static void planInEffectStays() {
        Story x = new Story();
        x.ask(0, 0, 2, 5L);
        x.plan(0, 0, 1, 1);
        x.plan(0, 1, 8, 1);
        x.run(4);
        CHECK.due("4: enough as it was", x.asker(0, 2), 0);
        x.run(1);
        CHECK.due("4: two were enough", x.asker(0, 2), 1);
        x.runAll();
        CHECK.due("4: accepted as it was", x.kept(2, 0), 5);
        CHECK.due("4: not by the new set", x.keeper(3, 0, 1), 0);
        x.ask(0, 0, 4, 1L);
        CHECK.due("4: the new set", x.messages(), 1);
        x.runAll();
        CHECK.due("4: accepted by the new set", x.kept(3, 0), 6);
        CHECK.due("4: no more by the old one", x.kept(0, 0), 5);
    }

    private static void planRefuses() {
        Story x = new Story();
        for (int wrong : new int[] {-1, 4, MIN, MAX}) {
            CHECK.outOfBounds("4: asker " + wrong, x, s -> s.plan(wrong, 0, 7, 2));
            CHECK.outOfBounds("4: asker, and set", x, s -> s.plan(wrong, 0, 0, 2));
        }
        for (int wrong : new int[] {-1, 2, MIN, MAX}) {
            CHECK.outOfBounds("4: which " + wrong, x, s -> s.plan(0, wrong, 7, 2));
            CHECK.outOfBounds("4: which, and enough", x, s -> s.plan(0, wrong, 7, 4));
        }
        for (int wrong : new int[] {0, -1, 512, 513, MIN, MAX}) {
            CHECK.illegal("4: set " + wrong, x, s -> s.plan(0, 0, wrong, 1));
        }
        for (int wrong : new int[] {0, -1, 3, MIN, MAX}) {
            CHECK.illegal("4: enough " + wrong, x, s -> s.plan(0, 0, 0b100100000, wrong));
            CHECK.illegal("4: enough " + wrong, x, s -> s.plan(0, 1, 0b100100000, wrong));
        }
        x.ask(0, 0, 2, 1L);
        CHECK.due("4: what was refused changed no set", x.runAll(), 12);
        CHECK.due("4: nor what is enough", x.request(0, 0), 1);
    }
}
