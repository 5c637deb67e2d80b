/**
 * What happens while something else goes on: while a copy is being written, while a receipt is owed,
 * and when an arrival comes again, whatever has become of the agent.
 */
public final class MeanwhileTest {
    private static final Check C = new Check("MeanwhileTest");

    public static void main(String[] args) {
        launchedWhileACopyIsWritten();
        clonedWhileACopyIsWritten();
        goneWhileACopyIsWritten();
        endedAndFailedWhileACopyIsWritten();
        ticksWhileACopyIsWritten();
        arrivalsWhileACopyIsWritten();
        sealedByOthersWhileACopyIsWritten();
        owedWhateverBecameOfIt();
        owedThoughItIsGone();
        owedToAnotherHostInTheCopy();
        owedToSeveralHosts();
        arrivalsAgainInEachSlot();
        arrivalsAgainInAnEmptySlot();
        arrivalsAgainWhileACopyIsWritten();
        asTheImageSaysOverOneThatIsLeaving();
        twentyReceipts();
        downWhileOthersAreUp();
        C.finish();
    }

    private static void launchedWhileACopyIsWritten() {
        Rows.hold(C, "a checkpoint makes a copy: one that is launched then is not in it, and is no sector of it",
            "load 0 push 7 say",
            "launch 0 0 50",
            "checkpoint 0: 2",
            "launch 0 0 50: 1",
            "host 0 1: 2",
            "write 0 1: 1",
            "slot 0 1: 1",
            "write 0 1: 0",
            "sealed 0: 1",
            "sealed 1: -1",
            "slot 0 1: 1",
            "restart 0",
            "slot 0 0: 1",
            "slot 0 1: 0",
            "host 0 10: 0",
            "host 0 11: -1");
    }

    private static void clonedWhileACopyIsWritten() {
        Rows.hold(C, "a checkpoint makes a copy: a child that is cloned then is not in it, and its parent has not cloned there",
            "load 0 push 9 clone",
            "launch 0 0 50",
            "step 0 1",
            "checkpoint 0: 2",
            "step 0 1: 1",
            "slot 0 4: 1",
            "host 0 1: 2",
            "write 0 2: 0",
            "sealed 4: -1",
            "slot 0 4: 1",
            "restart 0",
            "slot 0 4: 0",
            "host 0 14: -1",
            "agent 0 0 2: 49",
            "agent 0 0 5: 1",
            "step 0 1: 1",
            "slot 0 4: 1",
            "agent 0 0 2: 39");
    }

    private static void goneWhileACopyIsWritten() {
        Rows.hold(C, "a checkpoint makes a copy: a note that is told then is not in it",
            "load 0 push 1 go",
            "launch 0 0 50",
            "step 0 1",
            "checkpoint 0: 2",
            "step 0 1: 1",
            "host 0 2: 1",
            "write 0 2: 0",
            "sealed 0: 1",
            "tick 0: 0",
            "restart 0",
            "slot 0 0: 1",
            "host 0 2: -1",
            "agent 0 0 1: 0",
            "step 0 1: 1",
            "host 0 2: 1");
    }

    private static void endedAndFailedWhileACopyIsWritten() {
        Rows.hold(C, "a checkpoint makes a copy: what ends and fails then runs in it",
            "load 0 end",
            "load 1 add",
            "launch 0 0 50",
            "launch 0 1 50",
            "checkpoint 0: 3",
            "step 0 1: 2",
            "slot 0 0: 3",
            "slot 0 1: 4",
            "write 0 3: 0",
            "restart 0",
            "slot 0 0: 1",
            "slot 0 1: 1",
            "agent 0 0 2: 50",
            "agent 0 1 2: 50");
    }

    private static void ticksWhileACopyIsWritten() {
        Rows.hold(C, "each agent that has ticks to wait has one less, while a copy is written, too",
            "load 0 push 3 wait",
            "launch 0 0 50",
            "step 0 2",
            "checkpoint 0: 2",
            "tick 0: 0",
            "agent 0 0 4: 2",
            "write 0 1: 1",
            "tick 0: 0",
            "agent 0 0 4: 1",
            "write 0 1: 0",
            "restart 0",
            "agent 0 0 4: 3");
    }

    private static void arrivalsWhileACopyIsWritten() {
        Rows.hold(C, "an arrival is sent while another copy is written, if the sealed one has it leaving",
            "load 0 push 1 go",
            "launch 0 0 50",
            "step 0 2",
            "seal 0",
            "checkpoint 0: 2",
            "tick 0: 1",
            "write 0 1: 1",
            "tick 0: 2",
            "message 1 0: 0",
            "message 1 2: 1",
            "write 0 1: 0",
            "tick 0: 3");
        Rows.hold(C, "no arrival is sent while the first copy that has it leaving is written",
            "load 0 push 1 go",
            "launch 0 0 50",
            "step 0 2",
            "checkpoint 0: 2",
            "tick 0: 0",
            "write 0 1: 1",
            "tick 0: 0",
            "write 0 1: 0",
            "tick 0: 1");
    }

    private static void sealedByOthersWhileACopyIsWritten() {
        Rows.hold(C, "each host has a copy of its own",
            "load 0 push 7 say",
            "launch 0 0 50",
            "launch 1 0 50",
            "step 0 2",
            "step 1 2",
            "checkpoint 0: 2",
            "checkpoint 1: 2",
            "write 0 1: 1",
            "host 1 1: 2",
            "write 1 2: 0",
            "host 0 1: 1",
            "outputs 0: 0",
            "outputs 1: 1",
            "crash 1",
            "host 0 1: 1",
            "write 0 1: 0",
            "outputs 0: 1");
    }

    private static void owedWhateverBecameOfIt() {
        String[][] then = {{"jump 3", "1"}, {"push 1 go", "2"}, {"push 0 end", "3"}, {"push 0 20", "4"}};
        for (String[] one : then) {
            Rows.hold(C, "a receipt is owed whatever becomes of the agent there (" + one[0] + ")",
                "load 0 push 2 go " + one[0],
                "launch 0 0 90",
                "step 0 2",
                "send 0",
                "net 0 0: 0",
                "step 2 2: 2",
                "slot 2 0: " + one[1],
                "seal 2",
                "message 0 0: 1",
                "message 0 1: 0",
                "message 0 2: 1",
                "message 0 3: 2",
                "message 0 4: 0",
                "message 1 0: -1",
                "net 0 0: 0",
                "slot 0 0: 0");
            Rows.hold(C, "a receipt was owed in the copy: it is sent whatever became of the agent then (" + one[0] + ")",
                "load 0 push 2 go " + one[0],
                "launch 0 0 90",
                "step 0 2",
                "send 0",
                "net 0 0: 0",
                "checkpoint 2: 2",
                "step 2 2: 2",
                "slot 2 0: " + one[1],
                "write 2 2: 0",
                "message 0 0: 1",
                "message 0 2: 1",
                "message 0 4: 0",
                "seal 2",
                "message 1 0: -1");
        }
    }

    /** The host starts from a copy that owes a receipt, for an agent which then leaves it for good. */
    private static void owedThoughItIsGone() {
        Rows.hold(C, "a receipt makes the slot empty, no more: what the host owes it owes still",
            "load 0 push 2 go push 1 go",
            "launch 0 0 90",
            "step 0 2",
            "send 0",
            "net 0 0: 0",
            "step 2 2",
            "seal 2",
            "net 0 1: 0",
            "tick 2: 1",
            "restart 2",
            "net 0 0: 0",
            "seal 1",
            "message 0 4: 2",
            "net 0 0: 0",
            "slot 2 0: 0",
            "host 2 2: 1",
            "host 2 10: 1",
            "checkpoint 2: 1",
            "write 2 1: 0",
            "message 0 0: 1",
            "message 0 1: 0",
            "message 0 2: 1",
            "message 0 3: 2",
            "message 0 4: 0",
            "message 1 0: -1",
            "seal 2",
            "message 1 0: -1");
    }

    /** It is owed to host 0 in the copy, and to host 1 in the memory when the copy is sealed. */
    private static void owedToAnotherHostInTheCopy() {
        Rows.hold(C, "to which a receipt was owed in the copy: to that host it is sent",
            "load 0 push 2 go push 1 go push 2 go",
            "launch 0 0 90",
            "step 0 2",
            "send 0",
            "net 0 0: 0",
            "step 2 2",
            "seal 2",
            "net 0 1: 0",
            "tick 2: 1",
            "restart 2",
            "checkpoint 2: 2",
            "net 0 0: 0",
            "step 1 2",
            "seal 1",
            "net 0 1: 0",
            "tick 1: 1",
            "net 0 0: 0",
            "host 2 10: 3",
            "write 2 2: 0",
            "message 0 0: 1",
            "message 0 2: 1",
            "message 0 3: 2",
            "message 0 4: 0",
            "message 1 0: -1",
            "seal 2",
            "message 1 0: 1",
            "message 1 2: 3",
            "message 1 3: 2",
            "message 1 4: 1",
            "message 2 0: -1",
            "seal 2",
            "message 2 0: -1");
    }

    private static void owedToSeveralHosts() {
        Rows.hold(C, "for each agent, from 0 on, the receipt is sent to the host it came from",
            "load 0 push 3 go",
            "load 1 push 20 clone drop push 3 go",
            "launch 2 0 50",
            "launch 0 1 50",
            "launch 1 0 50",
            "step 0 9",
            "step 1 9",
            "step 2 9",
            "send 1",
            "send 0",
            "send 2",
            "tick 3: 4",
            "times 4 net 0 0",
            "checkpoint 3: 5",
            "write 3 5: 0",
            "message 0 1: 0",
            "message 0 4: 2",
            "message 1 1: 1",
            "message 1 4: 0",
            "message 2 1: 2",
            "message 2 4: 1",
            "message 3 1: 5",
            "message 3 4: 0",
            "message 4 0: -1");
    }

    private static void arrivalsAgainInEachSlot() {
        String[][] then = {{"jump 3", "1"}, {"push 1 go", "2"}, {"push 0 end", "3"}, {"push 0 20", "4"}};
        for (String[] one : then) {
            Rows.hold(C, "if the sealed copy knows as many hops, a receipt is sent, whatever the slot is (" + one[0] + ")",
                "load 0 push 2 go " + one[0],
                "launch 0 0 90",
                "step 0 2",
                "send 0",
                "net 0 2: 2",
                "net 0 0: 1",
                "step 2 2: 2",
                "seal 2",
                "net 1 1: 1",
                "agent 2 0 2: 86",
                "net 0 0: 1",
                "message 0 0: 1",
                "message 0 1: 0",
                "message 0 2: 1",
                "message 0 3: 2",
                "message 0 4: 0",
                "slot 2 0: " + one[1],
                "agent 2 0 2: 86");
            Rows.hold(C, "if the memory alone knows as many hops, nothing is done, whatever the slot is (" + one[0] + ")",
                "load 0 push 2 go " + one[0],
                "launch 0 0 90",
                "step 0 2",
                "send 0",
                "net 0 2: 2",
                "net 0 0: 1",
                "step 2 2: 2",
                "net 0 0: 0",
                "slot 2 0: " + one[1],
                "agent 2 0 2: 86",
                "seal 2",
                "message 0 2: 1",
                "message 1 0: -1");
        }
    }

    private static void arrivalsAgainInAnEmptySlot() {
        Rows.hold(C, "if the sealed copy knows as many hops, a receipt is sent, though the slot is empty, there and in the copy",
            "load 0 push 2 go push 1 go",
            "launch 0 0 90",
            "step 0 2",
            "send 0",
            "net 0 2: 2",
            "net 0 2: 3",
            "net 0 0: 2",
            "step 2 2",
            "seal 2",
            "net 2 1: 2",
            "tick 2: 3",
            "net 2 0: 2",
            "seal 1",
            "net 2 0: 2",
            "slot 2 0: 0",
            "net 0 0: 2",
            "slot 2 0: 0",
            "message 1 0: 1",
            "message 1 2: 1",
            "message 1 4: 0",
            "net 1 1: 1",
            "checkpoint 2: 1",
            "write 2 1: 0",
            "tick 2: 1",
            "net 0 0: 1",
            "slot 2 0: 0",
            "message 0 0: 1",
            "message 0 2: 1",
            "message 0 4: 0");
    }

    private static void arrivalsAgainWhileACopyIsWritten() {
        Rows.hold(C, "the copy that is being written is not the sealed one: an arrival again brings no receipt",
            "load 0 push 2 go",
            "launch 0 0 90",
            "step 0 2",
            "send 0",
            "net 0 2: 2",
            "net 0 2: 3",
            "net 0 0: 2",
            "checkpoint 2: 2",
            "net 0 0: 1",
            "write 2 1: 1",
            "write 2 1: 0",
            "message 1 0: 1",
            "message 2 0: -1",
            "net 0 0: 2",
            "message 1 0: 1",
            "message 1 2: 1");
    }

    private static void asTheImageSaysOverOneThatIsLeaving() {
        Rows.hold(C, "the agent runs there as the image says, whatever its slot was: nothing of what it was is left",
            "load 0 push 5 push 6 pair push 4 push 3 push 1 go drop drop push 8 say push 0 go",
            "launch 0 0 90",
            "step 0 7: 7",
            "agent 0 0 5: 3",
            "agent 0 0 6: 1",
            "send 0",
            "net 0 0: 0",
            "step 1 6: 6",
            "seal 1",
            "net 0 1: 0",
            "tick 1: 1",
            "slot 0 0: 2",
            "agent 0 0 5: 3",
            "net 0 0: 0",
            "slot 0 0: 1",
            "agent 0 0 0: 20",
            "agent 0 0 1: 2",
            "agent 0 0 2: 77",
            "agent 0 0 3: 1",
            "agent 0 0 4: 0",
            "agent 0 0 5: 1",
            "agent 0 0 6: 1",
            "agent 0 0 10: 1",
            "agent 0 0 11: -1");
    }

    private static void twentyReceipts() {
        Rows.hold(C, "messages under way are at most 20, be they receipts",
            "load 0 push 2 go",
            "launch 0 0 90",
            "step 0 2",
            "send 0",
            "net 0 0: 0",
            "seal 2",
            "message 0 0: 1",
            "times 18 net 0 2",
            "net 0 2: 20",
            "! net 0 2: IllegalStateException",
            "message 19 0: 1",
            "message 19 2: 1",
            "message 19 4: 0",
            "tick 0: 20",
            "net 19 0: 19",
            "slot 0 0: 0",
            "net 18 0: 18",
            "slot 0 0: 0");
    }

    private static void downWhileOthersAreUp() {
        Rows.hold(C, "a host starts and crashes whether others are up or down",
            "crash 0: true",
            "crash 1: true",
            "crash 2: true",
            "crash 3: true",
            "start 3: true",
            "host 3 0: 1",
            "host 2 0: 0",
            "crash 3: true",
            "start 1: true",
            "host 0 0: 0",
            "host 1 0: 1",
            "start 0: true",
            "start 2: true",
            "host 3 0: 0",
            "! step 3 1: IllegalStateException",
            "step 2 1: 0");
    }
}
