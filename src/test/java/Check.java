/** Counts what a test looked at, prints every answer that is not the one that is due, and ends the test. */
final class Check {
    interface Call {
        void make();
    }

    private final String name;
    private int looked = 0;
    private int wrong = 0;

    Check(String name) {
        this.name = name;
    }

    void due(String what, long got, long want) {
        looked++;
        if (got != want) {
            fault(what + " answered " + got + ", due is " + want);
        }
    }

    void due(String what, boolean got, boolean want) {
        due(what, got ? 1 : 0, want ? 1 : 0);
    }

    void same(String what, String got, String want) {
        looked++;
        if (!got.equals(want)) {
            fault(what + "\n  got:  " + got + "\n  want: " + want);
        }
    }

    /** The call throws the very class, no class below it, and leaves the object as it was. */
    void refuses(String what, SharedRegisters x, Class<? extends RuntimeException> want, Call call) {
        String before = View.of(x);
        looked++;
        try {
            call.make();
            fault(what + " threw nothing, due is " + want.getName());
        } catch (RuntimeException e) {
            if (e.getClass() != want) {
                fault(what + " threw " + e + ", due is " + want.getName());
            }
        }
        same(what + " changes nothing", View.of(x), before);
    }

    void outOfBounds(String what, SharedRegisters x, Call call) {
        refuses(what, x, IndexOutOfBoundsException.class, call);
    }

    void illegal(String what, SharedRegisters x, Call call) {
        refuses(what, x, IllegalArgumentException.class, call);
    }

    void fault(String text) {
        wrong++;
        System.out.println(name + ": " + text);
    }

    void end() {
        System.out.println(name + ": " + looked + " looked at, " + wrong + " wrong");
        if (wrong != 0) {
            System.exit(1);
        }
    }
}
