import java.util.ArrayList;
import java.util.List;

/**
 * A run of calls on a new object. What an object answers after its 512th call is free, so a story never goes
 * on behind that; and all that it leaves is looked at on other objects, on which it is told again.
 */
final class Story extends Calls {
    static final int MOST_CALLS = 512;
    /** More than a full row can bring with it: 300, an answer to each, and for four requests nine twice. */
    private static final int ALL = 700;

    private final List<Call> calls = new ArrayList<>();
    private final SharedRegisters object = new SharedRegisters();

    @Override
    long make(Call call) {
        if (calls.size() >= MOST_CALLS) {
            throw new IllegalStateException("the test makes more than 512 calls of one object");
        }
        calls.add(call);
        return call.on(object);
    }

    int size() {
        return calls.size();
    }

    Story again() {
        Story again = new Story();
        again.calls.addAll(calls);
        tell(again.object);
        return again;
    }

    /** A request that is run to its end. */
    int change(int asker, int key, int change, long argument) {
        int r = ask(asker, key, change, argument);
        runAll();
        return r;
    }

    int runAll() {
        return run(ALL);
    }

    /** One keeper alone is enough for the asker. */
    Story planOne(int asker, int keeper) {
        plan(asker, 0, 1 << keeper, 1);
        plan(asker, 1, 1 << keeper, 1);
        return this;
    }

    /** Message i comes again until there are so many. */
    Story fill(int i, int many) {
        int there = messages();
        while (there < many) {
            there = twice(i);
        }
        return this;
    }

    String view() {
        return View.of(new Looker());
    }

    private void tell(SharedRegisters to) {
        for (Call call : calls) {
            try {
                call.on(to);
            } catch (IndexOutOfBoundsException | IllegalArgumentException e) {
                // A call that is refused belongs to the story, too.
            }
        }
    }

    /** Looks at what the story left; when an object is used up, at a new one of the same story. */
    private final class Looker extends Calls {
        private SharedRegisters looked = null;
        private int used = 0;

        @Override
        long make(Call call) {
            if (calls.size() >= MOST_CALLS) {
                throw new IllegalStateException("the story leaves no call to look with");
            }
            if (looked == null || used >= MOST_CALLS) {
                looked = new SharedRegisters();
                tell(looked);
                used = calls.size();
            }
            used++;
            return call.on(looked);
        }
    }
}
