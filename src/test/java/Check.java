import java.util.function.Consumer;
import java.util.function.ToLongFunction;

/** Counts what a test looked at, prints every answer that is not the one that is due, and ends the test. */
final class Check {
    private final String name;
    private String sentence = "";
    private int lookedBefore = 0;
    private int looked = 0;
    private int wrong = 0;

    Check(String name) {
        this.name = name;
    }

    /** One that throws has failed, and the others are still run. */
    void test(String what, Runnable test) {
        try {
            test.run();
        } catch (RuntimeException e) {
            fault(what + " threw " + e);
        }
    }

    /** What is looked at from now on belongs to this sentence of the document. */
    void sentence(String text) {
        needLooks();
        sentence = text;
        lookedBefore = looked;
    }

    private void needLooks() {
        if (!sentence.isEmpty() && looked == lookedBefore) {
            fault("nothing was looked at");
        }
    }

    void due(String what, long got, long want) {
        looked++;
        if (got != want) {
            fault(what + " answered " + got + ", due is " + want);
        }
    }

    void due(String what, boolean got, boolean want) {
        due(what, got ? 1 : 0, want ? 1 : 0);
    }

    void same(String what, String got, String want) {
        looked++;
        if (!got.equals(want)) {
            fault(what + "\n  got:  " + got + "\n  want: " + want);
        }
    }

    void outOfBounds(String what, Story before, Consumer<Story> call) {
        refuses(what, before, IndexOutOfBoundsException.class, call);
    }

    void illegal(String what, Story before, Consumer<Story> call) {
        refuses(what, before, IllegalArgumentException.class, call);
    }

    /** The call, made behind the story, throws the very class, no class below it, and changes nothing. */
    private void refuses(String what, Story before, Class<? extends RuntimeException> want, Consumer<Story> call) {
        Story after = before.again();
        looked++;
        try {
            call.accept(after);
            fault(what + " threw nothing, due is " + want.getName());
        } catch (RuntimeException e) {
            boolean own = e.getStackTrace().length > 0
                    && e.getStackTrace()[0].getClassName().startsWith("SharedRegisters");
            if (e.getClass() != want || !own) {
                fault(what + " threw " + e + ", due is " + want.getName() + ", by a throw of the class");
            }
        }
        changedNothing(what, before, after);
    }

    /** The call, made behind the story, answers NONE and changes nothing. */
    void none(String what, Story before, ToLongFunction<Story> call) {
        Story after = before.again();
        due(what, call.applyAsLong(after), SharedRegisters.NONE);
        changedNothing(what, before, after);
    }

    /** To take message i has no effect: it leaves what losing it leaves. */
    void gone(String what, Story before, int i) {
        Story taken = before.again();
        Story lost = before.again();
        due(what + " has its sort", taken.take(i), lost.lose(i));
        changedNothing(what, lost, taken);
    }

    /** The parts of message i, as many as are written: sort, asker, keeper, request, ballot, version. */
    void message(String what, Story x, int i, int... want) {
        for (int part = 0; part < want.length; part++) {
            due(what + ", message(" + i + ", " + part + ")", x.message(i, part), want[part]);
        }
    }

    private void changedNothing(String what, Story before, Story after) {
        same(what + " changes nothing", after.view(), before.view());
        same(what + " changes nothing that comes later", Future.of(after), Future.of(before));
    }

    void fault(String text) {
        wrong++;
        System.out.println(name + ": " + (sentence.isEmpty() ? "" : "\"" + sentence + "\": ") + text);
    }

    void end() {
        needLooks();
        System.out.println(name + ": " + looked + " looked at, " + wrong + " wrong");
        if (wrong != 0) {
            System.exit(1);
        }
    }
}
