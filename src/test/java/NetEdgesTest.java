/** The boundary cases of promises 11 and 12, net and message, and of what is delivered. */
public final class NetEdgesTest {
    private static final Check C = new Check("NetEdgesTest");

    /** Agents 0 and 1 leave host 0 for host 1; messages 0 and 1 are their arrivals. */
    private static final String[] TWO_UNDER_WAY = {"load 0 push 1 go push 7 say push 0 go push 8 say end", "launch 0 0 90",
        "launch 0 0 90", "step 0 2", "send 0"};

    /** Agent 0 went to host 1, back to host 0 and on; a receipt for one hop is message 0. */
    private static final String[] BACK_AT_0 = {"load 0 push 1 go push 0 go push 1 go push 0 go", "launch 0 0 90", "step 0 2",
        "send 0", "net 0 0: 0", "step 1 2", "send 1", "net 1 0: 1"};

    public static void main(String[] args) {
        actionIsZeroToTwo();
        noSuchMessage();
        noMessageAtAll();
        doubledWhenThereAreTwenty();
        whichExceptionOfNet();
        outOfTheRowFirst();
        atMostTwenty();
        moreHopsThanTheHostKnows();
        asManyHopsAsTheHostKnows();
        theSealedCopyKnowsAsMany();
        theSealedCopyKnowsMore();
        whatIsOwedStaysOwed();
        whateverItsSlotWas();
        justTheseHops();
        leavingThere();
        deliveredToAHostThatIsDown();
        messageOfNoSuchK();
        messageOfNoSuchWhat();
        aReceiptHasNoBytes();
        C.finish();
    }

    private static void actionIsZeroToTwo() {
        Rows.hold(C, "IllegalArgumentException when action is not 0 .. 2", Rows.after(TWO_UNDER_WAY,
            "! net 0 -1: IllegalArgumentException",
            "! net 0 3: IllegalArgumentException",
            "! net 1 MIN: IllegalArgumentException",
            "! net 1 MAX: IllegalArgumentException",
            "net 0 0: 1",
            "! net 0 -1: IllegalArgumentException",
            "! net 0 3: IllegalArgumentException",
            "net 0 2: 2",
            "net 0 1: 1"));
    }

    private static void noSuchMessage() {
        for (int action = 0; action <= 2; action++) {
            Rows.hold(C, "IndexOutOfBoundsException when there is no such message, action " + action, Rows.after(TWO_UNDER_WAY,
                "! net -1 " + action + ": IndexOutOfBoundsException",
                "! net 2 " + action + ": IndexOutOfBoundsException",
                "! net 19 " + action + ": IndexOutOfBoundsException",
                "! net 20 " + action + ": IndexOutOfBoundsException",
                "! net MIN " + action + ": IndexOutOfBoundsException",
                "! net MAX " + action + ": IndexOutOfBoundsException",
                "net 1 " + action + ": " + (action == 2 ? 3 : 1),
                "! net " + (action == 2 ? 3 : 1) + " " + action + ": IndexOutOfBoundsException",
                "net 0 " + action + ": " + (action == 2 ? 4 : 0)));
        }
    }

    private static void noMessageAtAll() {
        Rows.hold(C, "no message is under way",
            "! net 0 0: IndexOutOfBoundsException",
            "! net 0 1: IndexOutOfBoundsException",
            "! net 0 2: IndexOutOfBoundsException",
            "! net -1 0: IndexOutOfBoundsException",
            "message 0 0: -1");
        Rows.hold(C, "none is left", Rows.after(TWO_UNDER_WAY,
            "net 0 1: 1",
            "net 0 1: 0",
            "! net 0 0: IndexOutOfBoundsException",
            "! net 0 2: IndexOutOfBoundsException"));
    }

    private static void doubledWhenThereAreTwenty() {
        Rows.hold(C, "IllegalStateException when it would be doubled and there are 20", Rows.after(TWO_UNDER_WAY,
            "times 17 net 0 2",
            "net 1 2: 20",
            "message 19 1: 1",
            "! net 0 2: IllegalStateException",
            "! net 19 2: IllegalStateException",
            "net 19 1: 19",
            "net 0 2: 20",
            "message 19 1: 0",
            "! net 0 2: IllegalStateException",
            "net 0 0: 19",
            "net 18 2: 20",
            "! net 18 2: IllegalStateException"));
    }

    private static void whichExceptionOfNet() {
        Rows.hold(C, "a wrong action of no message, no message when there are 20", Rows.after(TWO_UNDER_WAY,
            "! net 2 3: IllegalArgumentException",
            "! net -1 -1: IllegalArgumentException",
            "times 18 net 0 2",
            "! net 0 3: IllegalArgumentException",
            "! net 20 2: IndexOutOfBoundsException",
            "! net -1 2: IndexOutOfBoundsException",
            "! net 20 3: IllegalArgumentException",
            "! net 19 2: IllegalStateException"));
    }

    private static void outOfTheRowFirst() {
        Rows.hold(C, "delivered: it is out of the row first, so that there is room for a receipt", Rows.after(TWO_UNDER_WAY,
            "net 0 2: 3",
            "net 0 0: 2",
            "seal 1",
            "net 2 1: 2",
            "times 18 net 0 2",
            "tick 3: 20",
            "message 1 1: 0",
            "message 1 0: 0",
            "net 1 0: 20",
            "message 19 0: 1",
            "message 19 1: 0",
            "message 1 1: 1"));
        Rows.hold(C, "the first, the last and one between come out, those behind come up",
            "load 0 push 1 go",
            "times 4 launch 0 0 50",
            "step 0 2",
            "send 0",
            "net 3 0: 3",
            "message 2 1: 2",
            "net 0 1: 2",
            "message 0 1: 1",
            "message 1 1: 2",
            "net 0 2: 3",
            "net 1 0: 2",
            "message 0 1: 1",
            "message 1 1: 1",
            "message 2 1: -1",
            "slot 1 2: 1",
            "slot 1 3: 1",
            "slot 1 0: 0",
            "slot 1 1: 0");
    }

    private static void atMostTwenty() {
        Rows.hold(C, "a message that is sent is the last one, or lost, if there are 20", Rows.after(TWO_UNDER_WAY,
            "tick 0: 4",
            "times 14 net 0 2",
            "tick 0: 20",
            "message 18 1: 0",
            "message 19 1: 1",
            "tick 0: 20",
            "net 19 1: 19",
            "tick 0: 20",
            "message 19 1: 0",
            "message 20 0: -1",
            "tick 0: 20",
            "net 19 0: 19",
            "message 19 0: -1"));
    }

    private static void moreHopsThanTheHostKnows() {
        Rows.hold(C, "more hops than the host knows, which knows none", Rows.after(TWO_UNDER_WAY,
            "host 1 10: -1",
            "net 0 0: 1",
            "slot 1 0: 1",
            "host 1 10: 1",
            "host 1 11: -1"));
        Rows.hold(C, "a host that knows 0 hops takes 2", BACK_AT_0);
        Rows.hold(C, "just one hop more than it knows",
            "load 0 push 1 go push 2 go push 1 go push 0 go",
            "launch 0 0 90",
            "step 0 2",
            "send 0",
            "net 0 0: 0",
            "host 1 10: 1",
            "step 1 2",
            "send 1",
            "net 0 1: 1",
            "net 0 0: 0",
            "host 2 10: 2",
            "step 2 2",
            "send 2",
            "net 0 1: 1",
            "net 0 0: 0",
            "host 1 10: 3",
            "agent 1 0 1: 3",
            "slot 1 0: 1",
            "host 0 10: 0");
    }

    private static void asManyHopsAsTheHostKnows() {
        Rows.hold(C, "as many hops as it knows: it does not run again, and the copy that is not sealed tells nothing", Rows.after(
            TWO_UNDER_WAY,
            "net 0 2: 3",
            "net 0 2: 4",
            "net 0 0: 3",
            "step 1 1: 1",
            "agent 1 0 2: 87",
            "net 1 0: 2",
            "agent 1 0 2: 87",
            "checkpoint 1: 2",
            "write 1 1: 1",
            "net 1 0: 1",
            "agent 1 0 2: 87",
            "message 0 1: 1",
            "message 1 0: -1"));
        Rows.hold(C, "it has left there: as many hops do not make it run", Rows.after(TWO_UNDER_WAY,
            "net 0 2: 3",
            "net 0 0: 2",
            "step 1 9",
            "slot 1 0: 2",
            "net 1 0: 1",
            "slot 1 0: 2",
            "agent 1 0 1: 2"));
    }

    private static void theSealedCopyKnowsAsMany() {
        Rows.hold(C, "if the sealed copy knows as many hops, a receipt with the arrival's hops is sent", Rows.after(TWO_UNDER_WAY,
            "net 0 2: 3",
            "net 0 0: 2",
            "seal 1",
            "net 2 1: 2",
            "net 1 0: 2",
            "message 1 0: 1",
            "message 1 1: 0",
            "message 1 2: 1",
            "message 1 3: 1",
            "message 1 4: 0",
            "message 1 5: 0"));
        Rows.hold(C, "the sealed copy knows less than the memory: no receipt", Rows.after(BACK_AT_0,
            "net 0 1: 0",
            "step 0 2",
            "send 0",
            "net 0 1: 1",
            "net 0 2: 2",
            "net 0 0: 1",
            "host 1 10: 3",
            "slot 1 0: 1",
            "net 0 0: 0",
            "slot 1 0: 1"));
    }

    private static void theSealedCopyKnowsMore() {
        Rows.hold(C, "if the sealed copy knows more hops, a receipt with the arrival's hops is sent",
            "load 0 push 1 go push 0 go push 1 go push 0 go",
            "launch 0 0 90",
            "step 0 2",
            "send 0",
            "net 0 2: 2",
            "net 0 0: 1",
            "step 1 2",
            "send 1",
            "net 1 1: 2",
            "net 1 0: 1",
            "step 0 2",
            "send 0",
            "net 1 1: 2",
            "net 1 0: 1",
            "host 1 10: 3",
            "seal 1",
            "net 1 1: 1",
            "message 0 0: 0",
            "message 0 2: 1",
            "net 0 0: 1",
            "host 1 10: 3",
            "message 0 0: 1",
            "message 0 2: 1",
            "message 0 4: 0");
    }

    /** An old arrival comes once more while a receipt for a later one is owed to another host. */
    private static void whatIsOwedStaysOwed() {
        Rows.hold(C, "a receipt with the arrival's hops is sent to where it is from; the one that is owed stays owed",
            "load 0 push 2 go push 1 go push 2 go",
            "launch 0 0 90",
            "step 0 2",
            "send 0",
            "net 0 2: 2",
            "net 0 0: 1",
            "step 2 2",
            "seal 2",
            "net 1 1: 1",
            "tick 2: 2",
            "net 1 0: 1",
            "step 1 2",
            "seal 1",
            "tick 1: 3",
            "net 2 0: 2",
            "host 2 10: 3",
            "net 0 0: 2",
            "slot 2 0: 1",
            "agent 2 0 1: 3",
            "message 1 0: 1",
            "message 1 2: 1",
            "message 1 3: 2",
            "message 1 4: 0",
            "seal 2",
            "message 2 0: 1",
            "message 2 2: 3",
            "message 2 3: 2",
            "message 2 4: 1",
            "message 3 0: -1");
        Rows.hold(C, "a receipt is sent at once, and the one that is owed after a crash when it is sealed",
            "load 0 push 2 go",
            "launch 0 0 90",
            "step 0 2",
            "send 0",
            "net 0 2: 2",
            "net 0 0: 1",
            "seal 2",
            "net 1 1: 1",
            "restart 2",
            "net 0 0: 1",
            "message 0 0: 1",
            "message 0 4: 0",
            "seal 2",
            "message 1 0: 1",
            "message 1 2: 1",
            "message 1 4: 0",
            "seal 2",
            "message 2 0: -1");
    }

    private static void whateverItsSlotWas() {
        Rows.hold(C, "an arrival over a slot that was leaving", Rows.after(BACK_AT_0,
            "slot 0 0: 1",
            "agent 0 0 1: 2",
            "agent 0 0 0: 6",
            "host 0 10: 2",
            "host 0 2: 1"));
        Rows.hold(C, "an arrival over a slot that was empty, after a receipt",
            "load 0 push 1 go push 0 go end",
            "launch 0 0 90",
            "step 0 2",
            "send 0",
            "net 0 0: 0",
            "seal 1",
            "net 0 0: 0",
            "slot 0 0: 0",
            "step 1 2",
            "send 1",
            "net 0 0: 0",
            "slot 0 0: 1",
            "step 0 9: 1",
            "slot 0 0: 3");
    }

    private static void justTheseHops() {
        Rows.hold(C, "a receipt for fewer hops than it leaves with", Rows.after(BACK_AT_0,
            "step 0 2",
            "agent 0 0 1: 3",
            "slot 0 0: 2",
            "message 0 2: 1",
            "net 0 0: 0",
            "slot 0 0: 2"));
        Rows.hold(C, "a receipt for just as many, and once more when the sealed copy has it leaving again", Rows.after(BACK_AT_0,
            "step 0 2",
            "seal 0",
            "tick 0: 3",
            "net 2 0: 2",
            "seal 1",
            "net 2 2: 4",
            "message 2 2: 3",
            "net 2 0: 3",
            "slot 0 0: 0",
            "restart 0",
            "slot 0 0: 2",
            "net 2 0: 2",
            "slot 0 0: 0"));
        Rows.hold(C, "a receipt for just as many",
            "load 0 push 1 go",
            "launch 0 0 90",
            "step 0 2",
            "send 0",
            "net 0 0: 0",
            "seal 1",
            "net 0 0: 0",
            "slot 0 0: 0",
            "host 0 10: 0",
            "host 0 2: 1",
            "agent 0 0 1: -1");
    }

    private static void leavingThere() {
        Rows.hold(C, "a receipt where it runs", Rows.after(BACK_AT_0,
            "slot 0 0: 1",
            "net 0 0: 0",
            "slot 0 0: 1",
            "agent 0 0 1: 2"));
        Rows.hold(C, "a receipt where it has ended", Rows.after(TWO_UNDER_WAY,
            "net 0 0: 1",
            "net 0 0: 0",
            "step 1 4",
            "send 1",
            "net 2 0: 3",
            "net 2 0: 2",
            "step 0 3",
            "slot 0 0: 3",
            "net 0 0: 1",
            "slot 0 0: 3"));
        Rows.hold(C, "a receipt where it has failed",
            "load 0 push 1 go push 0 go drop",
            "launch 0 0 90",
            "step 0 2",
            "send 0",
            "net 0 0: 0",
            "step 1 2",
            "send 1",
            "net 1 0: 1",
            "step 0 1",
            "slot 0 0: 4",
            "net 0 0: 0",
            "slot 0 0: 4");
        Rows.hold(C, "a receipt where its slot is empty", Rows.after(TWO_UNDER_WAY,
            "net 0 0: 1",
            "seal 1",
            "net 1 2: 3",
            "net 1 0: 2",
            "slot 0 0: 0",
            "net 1 0: 1",
            "slot 0 0: 0",
            "slot 0 1: 2"));
    }

    private static void deliveredToAHostThatIsDown() {
        Rows.hold(C, "an arrival that is delivered to a host that is down is lost", Rows.after(TWO_UNDER_WAY,
            "crash 1",
            "net 0 0: 1",
            "message 0 1: 1",
            "start 1",
            "slot 1 0: 0",
            "host 1 10: -1",
            "net 0 0: 0",
            "slot 1 1: 1"));
        Rows.hold(C, "an arrival that the sealed copy of a host that is down knows: no receipt", Rows.after(TWO_UNDER_WAY,
            "net 0 2: 3",
            "net 0 0: 2",
            "seal 1",
            "net 2 1: 2",
            "crash 1",
            "net 1 0: 1",
            "message 0 1: 1",
            "message 0 0: 0"));
        Rows.hold(C, "a receipt that is delivered to a host that is down is lost", Rows.after(TWO_UNDER_WAY,
            "net 0 0: 1",
            "seal 1",
            "crash 0",
            "net 1 0: 1",
            "start 0",
            "slot 0 0: 2",
            "tick 0: 3"));
    }

    private static void messageOfNoSuchK() {
        Rows.hold(C, "message: NONE when there is none such", Rows.after(TWO_UNDER_WAY,
            "message -1 0: -1",
            "message -1 5: -1",
            "message 0 1: 0",
            "message 1 1: 1",
            "message 2 0: -1",
            "message 2 1: -1",
            "message 2 5: -1",
            "message 2 10: -1",
            "message 19 0: -1",
            "message 20 0: -1",
            "message MIN 0: -1",
            "message MAX 0: -1",
            "net 1 1: 1",
            "message 1 0: -1",
            "message 1 5: -1"));
    }

    private static void messageOfNoSuchWhat() {
        Rows.hold(C, "message: NONE for a what that is none of 0 .. 5 and no byte", Rows.after(TWO_UNDER_WAY,
            "message 1 -1: -1",
            "message 1 0: 0",
            "message 1 5: 11",
            "message 1 6: -1",
            "message 1 7: -1",
            "message 1 8: -1",
            "message 1 9: -1",
            "message 1 10: 1",
            "message 1 18: 88",
            "message 1 20: 0",
            "message 1 21: -1",
            "message 1 MIN: -1",
            "message 1 MAX: -1"));
    }

    private static void aReceiptHasNoBytes() {
        Rows.hold(C, "0 for a receipt, whose place in the row an arrival had before", Rows.after(TWO_UNDER_WAY,
            "net 0 0: 1",
            "net 0 0: 0",
            "seal 1",
            "message 0 0: 1",
            "message 0 5: 0",
            "message 0 10: -1",
            "message 0 11: -1",
            "message 1 0: 1",
            "message 1 5: 0",
            "message 1 10: -1"));
    }
}
