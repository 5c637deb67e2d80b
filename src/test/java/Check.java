/** Counts what was looked at and prints every answer that is not the one that is due. */
final class Check {
    private final String name;
    private int looked = 0;
    private int wrong = 0;

    Check(String name) {
        this.name = name;
    }

    interface Deed {
        void make();
    }

    void same(String what, long got, long want) {
        looked++;
        if (got != want) {
            report(what + " answered " + got + ", due is " + want);
        }
    }

    void same(String what, boolean got, boolean want) {
        same(what, got ? 1 : 0, want ? 1 : 0);
    }

    void same(String what, String got, String want) {
        looked++;
        if (!got.equals(want)) {
            report(what + " answered " + got + ", due is " + want);
        }
    }

    void illegalArgument(String what, Deed deed) {
        raises(what, IllegalArgumentException.class, deed);
    }

    void illegalState(String what, Deed deed) {
        raises(what, IllegalStateException.class, deed);
    }

    void outOfBounds(String what, Deed deed) {
        raises(what, IndexOutOfBoundsException.class, deed);
    }

    private void raises(String what, Class<? extends RuntimeException> due, Deed deed) {
        looked++;
        try {
            deed.make();
        } catch (RuntimeException e) {
            if (e.getClass() != due) {
                report(what + " threw " + e.getClass().getSimpleName() + ", due is " + due.getSimpleName());
            }
            return;
        }
        report(what + " threw nothing, due is " + due.getSimpleName());
    }

    void report(String line) {
        wrong++;
        if (wrong <= 40) {
            System.out.println(name + ": " + line);
        }
    }

    void finish() {
        System.out.println(name + ": " + looked + " answers looked at, " + wrong + " wrong");
        if (wrong > 0 || looked == 0) {
            System.exit(1);
        }
    }
}
