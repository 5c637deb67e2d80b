/** Counts what was looked at and prints every answer that is not the one that is due. */
final class Check {
    private final String name;
    private int looked = 0;
    private int wrong = 0;

    Check(String name) {
        this.name = name;
    }

    interface Call {
        void make();
    }

    void same(String what, long got, long want) {
        looked++;
        if (got != want) {
            report(what + " answered " + got + ", due is " + want);
        }
    }

    void same(String what, boolean got, boolean want) {
        same(what, got ? 1 : 0, want ? 1 : 0);
    }

    void illegalArgument(String what, Call call) {
        raises(what, IllegalArgumentException.class, call);
    }

    void illegalState(String what, Call call) {
        raises(what, IllegalStateException.class, call);
    }

    void outOfBounds(String what, Call call) {
        raises(what, IndexOutOfBoundsException.class, call);
    }

    private void raises(String what, Class<? extends RuntimeException> due, Call call) {
        looked++;
        try {
            call.make();
        } catch (RuntimeException e) {
            if (e.getClass() != due) {
                report(what + " threw " + e.getClass().getSimpleName() + ", due is " + due.getSimpleName());
            }
            return;
        }
        report(what + " threw nothing, due is " + due.getSimpleName());
    }

    void report(String line) {
        wrong++;
        if (wrong <= 40) {
            System.out.println(name + ": " + line);
        }
    }

    void finish() {
        System.out.println(name + ": " + looked + " answers looked at, " + wrong + " wrong");
        if (wrong > 0 || looked == 0) {
            System.exit(1);
        }
    }
}
