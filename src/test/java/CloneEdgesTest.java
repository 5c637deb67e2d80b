/** The boundary cases of instruction 12: who clones, with how much fuel, and what the two have then. */
public final class CloneEdgesTest {
    private static final Check C = new Check("CloneEdgesTest");

    public static void main(String[] args) {
        fromOneToItsFuel();
        sharesFarOff();
        noFuelLeft();
        allOfItsFuel();
        oneOfZeroToThree();
        childrenDoNotClone();
        hasNotCloned();
        hasNotClonedAfterACrash();
        theChildAsItIsThen();
        noHopsAndNoneSaid();
        notClonedInTheCopy();
        clonedInTheCopy();
        noNoteAndNothingOwed();
        runsThere();
        C.finish();
    }

    /** With 20 fuel, 18 are left when the push and the clone are paid. */
    private static void fromOneToItsFuel() {
        for (int share : new int[] {-128, -1, 0, 1, 2, 17, 18, 19, 20, 21, 127}) {
            boolean clones = share >= 1 && share <= 18;
            Rows.hold(C, "s is from 1 to its fuel: " + share,
                "load 0 push " + share + " clone say",
                "launch 0 0 20",
                "step 0 2: 2",
                "slot 0 0: 1",
                "slot 0 4: " + (clones ? 1 : 0),
                "agent 0 0 2: " + (clones ? 18 - share : 18),
                "agent 0 4 2: " + (clones ? share : -1),
                "agent 0 0 5: 1",
                "agent 0 4 5: " + (clones ? 1 : -1),
                "host 0 14: " + (clones ? 0 : -1),
                "checkpoint 0: " + (clones ? 3 : 2),
                "write 0 9: 0",
                "step 0 1: " + (!clones || share == 18 ? 1 : 2),
                "seal 0",
                "output 0 0: " + (share == 18 ? "2^40" : clones ? "0" : "-1"),
                "output 4 0: " + (clones ? "1" : "2^40"),
                "expected 4: " + (clones ? 1 : -1),
                "expectedOutput 0 0: " + (share == 18 ? "2^40" : clones ? "0" : "-1"),
                "expectedOutput 4 0: " + (clones ? "1" : "2^40"));
        }
    }

    private static void sharesFarOff() {
        Rows.hold(C, "s is the least or the greatest int",
            "load 0 table 0 clone say",
            "table 0 0 MIN",
            "table 1 0 MAX",
            "launch 0 0 200",
            "launch 1 0 200",
            "expectedOutput 0 0: -1",
            "expectedOutput 1 0: -1",
            "step 0 2: 2",
            "step 1 2: 2",
            "slot 0 4: 0",
            "slot 1 5: 0",
            "agent 0 0 2: 198",
            "agent 1 1 2: 198");
    }

    private static void noFuelLeft() {
        Rows.hold(C, "its fuel is taken first: with the last one there is none to give",
            "load 0 push 1 clone",
            "launch 0 0 2",
            "launch 0 0 3",
            "step 0 2: 4",
            "slot 0 4: 0",
            "agent 0 0 2: 0",
            "agent 0 0 5: 1",
            "slot 0 5: 1",
            "agent 0 5 2: 1",
            "agent 0 1 2: 0",
            "expected 4: -1",
            "expected 5: 0");
    }

    private static void allOfItsFuel() {
        Rows.hold(C, "for itself the fuel is s less: none, and it does nothing more",
            "load 0 push 48 clone push 3",
            "launch 0 0 50",
            "step 0 2: 2",
            "agent 0 0 2: 0",
            "agent 0 4 2: 48",
            "step 0 1: 1",
            "agent 0 0 0: 3",
            "agent 0 4 0: 5",
            "slot 0 0: 1");
    }

    private static void oneOfZeroToThree() {
        Rows.hold(C, "it is one of 0 .. 3, and 4 + a is the child of agent a",
            "load 0 push 5 clone",
            "times 4 launch 0 0 50",
            "step 0 1: 4",
            "slot 0 4: 0",
            "step 0 1: 4",
            "slot 0 4: 1",
            "slot 0 5: 1",
            "slot 0 6: 1",
            "slot 0 7: 1",
            "agent 0 7 2: 5",
            "expected 7: 0");
        Rows.hold(C, "the child of agent 3 alone",
            "load 0 push 5 clone",
            "launch 0 1 50",
            "launch 0 1 50",
            "launch 0 1 50",
            "launch 2 0 50",
            "step 2 2: 2",
            "slot 2 7: 1",
            "slot 2 4: 0",
            "slot 2 6: 0");
    }

    private static void childrenDoNotClone() {
        for (int a = 0; a < 4; a++) {
            Rows.hold(C, "a child is given -1: agent " + (a + 4),
                "load 0 push 50 clone drop push 5 clone say",
                "times " + (a + 1) + " launch 3 0 200",
                "step 3 9",
                "seal 3",
                "output " + (a + 4) + " 0: -1",
                "output " + a + " 0: -1",
                "outputs " + (a + 4) + ": 1",
                "expectedOutput " + (a + 4) + " 0: -1");
        }
    }

    private static void hasNotCloned() {
        Rows.hold(C, "it has not cloned: once and no more, and one that was given -1 has not",
            "load 0 push 0 clone say push 127 clone say push 9 clone say push 9 clone say",
            "launch 0 0 100",
            "expected 0: 4",
            "expectedOutput 0 0: -1",
            "expectedOutput 0 1: -1",
            "expectedOutput 0 2: 0",
            "expectedOutput 0 3: -1",
            "step 0 6: 6",
            "slot 0 4: 0",
            "step 0 2: 2",
            "slot 0 4: 1",
            "agent 0 0 2: 83",
            "step 0 4: 8",
            "agent 0 0 2: 79",
            "seal 0",
            "output 0 2: 0",
            "output 0 3: -1",
            "output 4 0: 1");
        Rows.hold(C, "it has cloned, over a hop",
            "load 0 push 9 clone say push 1 go push 9 clone say",
            "launch 0 0 100",
            "step 0 5",
            "send 0",
            "net 0 0: 1",
            "slot 1 0: 1",
            "step 1 3: 3",
            "slot 1 4: 0",
            "seal 1",
            "output 0 1: -1",
            "expectedOutput 0 1: -1");
    }

    private static void hasNotClonedAfterACrash() {
        Rows.hold(C, "the sealed copy has not cloned: it clones again after a crash",
            "load 0 push 9 clone say",
            "launch 0 0 100",
            "step 0 1",
            "seal 0",
            "step 0 1",
            "slot 0 4: 1",
            "restart 0",
            "slot 0 4: 0",
            "host 0 14: -1",
            "step 0 1",
            "slot 0 4: 1",
            "seal 0",
            "restart 0",
            "slot 0 4: 1",
            "agent 0 4 2: 9");
    }

    private static void theChildAsItIsThen() {
        Rows.hold(C, "its child is as it is then: place, stack and pairs",
            "load 0 push 3 push 4 pair push 6 push 20 clone",
            "launch 1 0 100",
            "step 1 6: 6",
            "agent 1 4 0: 10",
            "agent 1 4 5: 3",
            "agent 1 4 6: 1",
            "agent 1 4 10: 1",
            "agent 1 4 11: 0",
            "agent 1 4 12: 0",
            "agent 1 0 0: 10",
            "agent 1 0 5: 3",
            "agent 1 0 6: 1");
        Rows.hold(C, "its pairs are its own then: what becomes of the parent's is not seen",
            "load 0 push 3 push 4 pair pick 0 push 20 clone setfirst pick 0 first say second say",
            "launch 1 0 100",
            "step 1 6: 6",
            "step 1 40",
            "seal 1",
            "output 0 0: 0",
            "output 0 1: 4",
            "output 4 0: 1",
            "output 4 1: 4",
            "expectedOutput 0 0: 0",
            "expectedOutput 4 0: 1",
            "expectedOutput 4 1: 4");
    }

    private static void noHopsAndNoneSaid() {
        Rows.hold(C, "no hops, none said, nothing to wait",
            "load 0 push 5 say push 2 wait push 1 go push 6 say push 20 clone say push 0 go",
            "launch 0 0 100",
            "step 0 9",
            "tick 0",
            "tick 0",
            "step 0 9",
            "send 0",
            "net 0 0: 0",
            "step 1 4: 4",
            "agent 1 0 1: 1",
            "agent 1 0 3: 2",
            "agent 1 4 1: 0",
            "agent 1 4 3: 0",
            "agent 1 4 4: 0",
            "host 1 14: 0",
            "host 1 10: 1",
            "step 1 3: 6",
            "agent 1 4 1: 1",
            "agent 1 4 3: 1",
            "agent 1 0 1: 2",
            "seal 1",
            "outputs 4: 1",
            "output 4 0: 1",
            "output 0 2: 0",
            "tick 1: 3",
            "message 1 1: 0",
            "message 1 2: 2",
            "message 2 1: 4",
            "message 2 2: 1",
            "message 2 13: 1",
            "message 2 14: 1",
            "message 2 16: 0",
            "message 1 16: 1");
    }

    private static void notClonedInTheCopy() {
        for (int below = 0; below <= 5; below++) {
            Rows.hold(C, "the sealed copy has not cloned: it does after a crash, with " + below + " values below",
                "load 0 " + "push 0 ".repeat(below) + "push 9 clone",
                "launch 0 0 90",
                "step 0 " + (below + 1) + ": " + (below + 1),
                "seal 0",
                "step 0 1: 1",
                "slot 0 4: 1",
                "restart 0",
                "slot 0 4: 0",
                "agent 0 0 2: " + (89 - below),
                "step 0 1: 1",
                "slot 0 4: 1",
                "agent 0 0 2: " + (79 - below),
                "agent 0 4 2: 9",
                "agent 0 4 5: " + (below + 1));
        }
    }

    private static void clonedInTheCopy() {
        for (int below = 0; below <= 4; below++) {
            Rows.hold(C, "the sealed copy has cloned: it does not after a crash, with " + below + " values below",
                "load 0 " + "push 0 ".repeat(below) + "push 9 clone push 8 clone",
                "launch 0 0 90",
                "step 0 " + (below + 2) + ": " + (below + 2),
                "slot 0 4: 1",
                "seal 0",
                "restart 0",
                "agent 0 4 2: 9",
                "agent 0 0 2: " + (79 - below),
                "step 0 2: 4",
                "agent 0 0 2: " + (77 - below),
                "agent 0 4 2: 7",
                "agent 0 0 5: " + (below + 2));
        }
    }

    /** The parent left here once and came back; the child has done neither. */
    private static void noNoteAndNothingOwed() {
        Rows.hold(C, "no note of the child, and no receipt that is owed for it",
            "load 0 push 1 go push 0 go push 9 clone",
            "launch 0 0 90",
            "step 0 2",
            "send 0",
            "net 0 0: 0",
            "step 1 2",
            "send 1",
            "net 1 0: 1",
            "net 0 1: 0",
            "host 0 2: 1",
            "step 0 2: 2",
            "slot 0 4: 1",
            "host 0 6: -1",
            "host 0 14: 0",
            "host 0 2: 1",
            "host 0 10: 2",
            "checkpoint 0: 3",
            "write 0 3: 0",
            "message 0 1: 0",
            "message 0 2: 2",
            "message 0 4: 1",
            "message 1 0: -1",
            "sealed 0: 201",
            "sealed 4: 1");
    }

    private static void runsThere() {
        Rows.hold(C, "it runs there: at the host where its parent is",
            "load 0 push 3 go push 20 clone",
            "launch 0 0 100",
            "step 0 2",
            "send 0",
            "net 0 0: 0",
            "step 3 2: 2",
            "slot 3 4: 1",
            "slot 0 4: 0",
            "host 3 14: 0",
            "host 0 14: -1",
            "host 3 6: -1");
    }
}
