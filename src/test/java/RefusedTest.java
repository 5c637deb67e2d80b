/**
 * All promises: in states where much is going on, every kind of call that is refused, each with what
 * it answers or throws, and that it changes nothing that later calls show.
 */
public final class RefusedTest {
    private static final Check C = new Check("RefusedTest");

    /** No agent was launched; program 0 has 48 bytes, program 1 has 41; host 3 is down. */
    private static final String[] NOT_YET_LAUNCHED = {"load 0 push 9 clone say push 3 go table 7 say end",
        "times 37 program 0 20 1", "load 1 table 0 say push 1 go table 0 say", "times 32 program 1 20 1",
        "table 0 0 5", "table 3 7 6", "crash 3"};

    /**
     * Agent 0 with pairs and its child run at host 0, agent 1 is under way from host 1 to host 2, agent
     * 2 waits at host 2, where a checkpoint is half written; host 3 is down, with a sealed copy.
     */
    private static final String[] BUSY = {"load 0 push 1 push 2 pair push 60 clone say pick 0 first say jump 8",
        "load 1 push 4 say push 2 go push 5 say", "load 2 push 3 wait push 6 say jump 3", "table 1 0 7", "launch 0 0 200",
        "step 0 6", "launch 1 1 50", "step 1 4", "send 1", "tick 1", "launch 2 2 50", "step 2 2", "seal 2", "tick 2",
        "checkpoint 2", "write 2 1", "checkpoint 3", "write 3 9", "crash 3"};

    /** Four were launched and 20 messages are under way; hosts 0 and 1 are up, and write nothing. */
    private static final String[] FULL = {"load 0 push 1 go push 5 say push 0 go", "times 4 launch 0 0 50", "step 0 2",
        "send 0", "net 0 0", "step 1 2", "seal 1", "times 16 net 0 2", "crash 2", "crash 3"};

    public static void main(String[] args) {
        notYetLaunched();
        busy();
        full();
        C.finish();
    }

    private static void refused(String[] state, String... rows) {
        for (String row : rows) {
            Rows.hold(C, "refused", Rows.after(state, "! " + row));
        }
    }

    private static void notYetLaunched() {
        refused(NOT_YET_LAUNCHED,
            "program 0 0 1: -1", "program 0 0 8: -1", "program 1 0 8: -1", "program 1 0 0: -1", "program 1 0 9: -1",
            "program -1 0 1: -1", "program 4 0 1: -1", "table -1 0 1: false", "table 4 0 1: false", "table 0 -1 1: false",
            "table 0 8 1: false", "launch 0 0 0: IllegalArgumentException", "launch 0 0 201: IllegalArgumentException",
            "launch 0 -1 9: IllegalArgumentException", "launch 0 4 9: IllegalArgumentException",
            "launch -1 0 9: IllegalArgumentException", "launch 4 0 9: IllegalArgumentException",
            "launch 3 0 9: IllegalStateException", "launch 3 0 0: IllegalArgumentException",
            "step 3 1: IllegalStateException", "tick 3: IllegalStateException", "checkpoint 3: IllegalStateException",
            "write 3 1: IllegalStateException", "write 0 1: IllegalStateException", "crash 3: false", "start 0: false",
            "net 0 0: IndexOutOfBoundsException", "net 0 3: IllegalArgumentException");
    }

    private static void busy() {
        refused(BUSY,
            "program 0 0 1: -1", "program 3 0 1: -1", "table 0 0 1: false", "table 3 7 1: false",
            "launch 3 0 50: IllegalStateException", "launch 0 0 0: IllegalArgumentException",
            "launch 0 0 201: IllegalArgumentException", "launch 0 4 50: IllegalArgumentException",
            "launch 4 0 50: IllegalArgumentException", "step 0 0: IllegalArgumentException",
            "step 0 41: IllegalArgumentException", "step -1 1: IllegalArgumentException", "step 4 1: IllegalArgumentException",
            "step 3 1: IllegalStateException", "step 3 41: IllegalArgumentException", "tick -1: IllegalArgumentException",
            "tick 4: IllegalArgumentException", "tick 3: IllegalStateException", "checkpoint -1: IllegalArgumentException",
            "checkpoint 4: IllegalArgumentException", "checkpoint 3: IllegalStateException",
            "checkpoint 2: IllegalStateException");
        refused(BUSY,
            "write -1 1: IllegalArgumentException", "write 4 1: IllegalArgumentException",
            "write 2 0: IllegalArgumentException", "write 2 MIN: IllegalArgumentException",
            "write 0 0: IllegalArgumentException", "write 3 0: IllegalArgumentException", "write 0 1: IllegalStateException",
            "write 1 9: IllegalStateException", "write 3 1: IllegalStateException", "crash -1: IllegalArgumentException",
            "crash 4: IllegalArgumentException", "crash 3: false", "start -1: IllegalArgumentException",
            "start 4: IllegalArgumentException", "start 0: false", "start 2: false", "net 0 -1: IllegalArgumentException",
            "net 0 3: IllegalArgumentException", "net -1 0: IndexOutOfBoundsException", "net 2 0: IndexOutOfBoundsException",
            "net 2 1: IndexOutOfBoundsException", "net 2 2: IndexOutOfBoundsException", "net 2 3: IllegalArgumentException");
        refused(BUSY,
            "message -1 0: -1", "message 2 0: -1", "message 0 6: -1", "message 0 21: -1", "slot 3 0: -1", "slot -1 0: -1",
            "slot 4 0: -1", "slot 0 -1: -1", "slot 0 8: -1", "agent 3 0 0: -1", "agent 0 1 0: -1", "agent 0 0 7: -1",
            "agent 0 0 11: -1", "agent 0 -1 0: -1", "agent 0 8 0: -1", "host -1 0: -1", "host 4 0: -1", "host 0 -1: -1",
            "host 0 18: -1", "sealed -1: -1", "sealed 8: -1", "sealed 0: -1", "outputs -1: -1", "outputs 8: -1",
            "output 1 1: 2^40", "output 1 -1: 2^40", "output 8 0: 2^40", "expected -1: -1", "expected 3: -1",
            "expected 8: -1", "expected 5: -1", "expectedOutput 1 2: 2^40", "expectedOutput 3 0: 2^40",
            "expectedOutput 8 0: 2^40", "expectedOutput 0 -1: 2^40");
    }

    private static void full() {
        refused(FULL,
            "launch 0 0 50: IllegalStateException", "launch 2 0 50: IllegalStateException",
            "launch 0 0 201: IllegalArgumentException", "net 0 2: IllegalStateException", "net 19 2: IllegalStateException",
            "net 20 2: IndexOutOfBoundsException", "net 20 0: IndexOutOfBoundsException", "net -1 2: IndexOutOfBoundsException",
            "net 0 3: IllegalArgumentException", "net 20 3: IllegalArgumentException", "write 0 1: IllegalStateException",
            "step 2 40: IllegalStateException", "tick 3: IllegalStateException", "crash 2: false", "start 1: false",
            "program 0 0 1: -1", "table 2 0 1: false", "message 20 0: -1");
    }
}
