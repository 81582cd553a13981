/** What can be told only by what comes later: who is down, the plans, what messages and requests bear. */
final class Future {
    private static final int MOST_STEPS = 36;

    private Future() {
    }

    static String of(Story story) {
        Story ran = story.again();
        StringBuilder text = new StringBuilder("ran ").append(ran.runAll()).append(' ').append(ran.view());
        for (int keeper = 0; keeper < 9; keeper++) {
            text.append(" down ").append(ran.down(keeper, false));
        }
        for (int asker = 0; asker < 4; asker++) {
            planOf(ran, asker, text);
        }
        return text.toString();
    }

    /** The sets, and what is enough, are seen by the steps of a request that begins now. */
    private static void planOf(Story ran, int asker, StringBuilder text) {
        Story asked = ran.again();
        text.append("\n  plan ").append(asked.give(asker)).append(' ').append(asked.ask(asker, 3, 4, 1L));
        for (int n = 1; n <= MOST_STEPS; n++) {
            Story later = asked.again();
            boolean over = later.run(n) < n;
            text.append(", ").append(later.asker(asker, 2)).append(later.asker(asker, 3)).append(later.messages());
            if (over) {
                break;
            }
        }
        asked.runAll();
        for (int keeper = 0; keeper < 9; keeper++) {
            text.append(' ').append(asked.keeper(keeper, 3, 1)).append(' ').append(asked.kept(keeper, 3));
        }
    }
}
