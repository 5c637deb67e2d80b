/** The boundary cases of promises 7 to 10: checkpoint, write, crash and start. */
public final class CopyEdgesTest {
    private static final Check C = new Check("CopyEdgesTest");
    private static final String[] TWO_AT_0 = {"load 0 push 7 say jump 3", "launch 0 0 50", "launch 0 0 50", "step 0 2"};

    /** Agent 0 came from host 0 to host 2, which owes the receipt. */
    private static final String[] CAME_TO_2 = {"load 0 push 2 go push 0 go push 2 go", "launch 0 0 90", "step 0 2", "send 0",
        "net 0 0: 0"};

    public static void main(String[] args) {
        checkpointAtNoSuchHost();
        checkpointAtAHostThatIsDown();
        oneIsBeingWritten();
        sectorsOfAnEmptyMemory();
        sectorsOfAFullMemory();
        everySlotThatIsNotEmptyCounts();
        writeAtNoSuchHost();
        nBelowOne();
        moreThanAreLeft();
        writeAtAHostThatIsDown();
        noneIsBeingWritten();
        whichExceptionOfAWrite();
        whenAllSectorsAreWritten();
        saidUpToTheCheckpoint();
        releasedIfItWasNot();
        owedInTheCopy();
        theSameNumberOfHopsStill();
        theLatestThatCameIsOwed();
        aReceiptComesWhileACopyIsWritten();
        receiptsWithoutRoom();
        crashAtNoSuchHost();
        crashWhenDown();
        startAtNoSuchHost();
        startWhenUp();
        theCopyThatIsNotSealedIsGone();
        theSealedCopyAtFirst();
        allOfAMemoryIsSealed();
        pairsOfAStackOfAnySize();
        messagesOutliveACrash();
        C.finish();
    }

    private static void checkpointAtNoSuchHost() {
        Rows.hold(C, "checkpoint: IllegalArgumentException when there is no such host", Rows.after(TWO_AT_0,
            "! checkpoint -1: IllegalArgumentException",
            "! checkpoint 4: IllegalArgumentException",
            "! checkpoint MIN: IllegalArgumentException",
            "! checkpoint MAX: IllegalArgumentException",
            "checkpoint 0: 3",
            "checkpoint 3: 1",
            "! checkpoint -1: IllegalArgumentException",
            "! checkpoint 4: IllegalArgumentException"));
    }

    private static void checkpointAtAHostThatIsDown() {
        Rows.hold(C, "checkpoint: IllegalStateException when the host is down", Rows.after(TWO_AT_0,
            "seal 0",
            "crash 0",
            "! checkpoint 0: IllegalStateException",
            "host 0 1: 0",
            "start 0",
            "checkpoint 0: 3"));
    }

    private static void oneIsBeingWritten() {
        Rows.hold(C, "checkpoint: IllegalStateException when one is being written", Rows.after(TWO_AT_0,
            "checkpoint 0: 3",
            "! checkpoint 0: IllegalStateException",
            "checkpoint 1: 1",
            "! checkpoint 1: IllegalStateException",
            "write 0 1: 2",
            "! checkpoint 0: IllegalStateException",
            "write 0 1: 1",
            "! checkpoint 0: IllegalStateException",
            "write 0 1: 0",
            "checkpoint 0: 3",
            "crash 0",
            "start 0",
            "checkpoint 0: 3"));
        Rows.hold(C, "one that is refused is not begun: the copy is of the first one's beginning",
            "load 0 push 7 say push 8 say",
            "launch 0 0 50",
            "step 0 2",
            "checkpoint 0: 2",
            "step 0 2",
            "! checkpoint 0: IllegalStateException",
            "write 0 2: 0",
            "outputs 0: 1",
            "restart 0",
            "agent 0 0 0: 3");
    }

    private static void sectorsOfAnEmptyMemory() {
        Rows.hold(C, "an empty memory has one sector",
            "checkpoint 0: 1",
            "host 0 1: 1",
            "write 0 1: 0",
            "host 0 1: 0",
            "checkpoint 3: 1",
            "! checkpoint 3: IllegalStateException",
            "write 3 2: 0",
            "! write 3 1: IllegalStateException");
        Rows.hold(C, "a memory that has become empty again", Rows.after(CAME_TO_2,
            "seal 2",
            "checkpoint 0: 2",
            "write 0 2: 0",
            "net 0 0: 0",
            "slot 0 0: 0",
            "checkpoint 0: 1",
            "write 0 1: 0",
            "restart 0",
            "slot 0 0: 0",
            "host 0 2: 2",
            "host 0 10: 0"));
    }

    private static void sectorsOfAFullMemory() {
        Rows.hold(C, "eight slots that are not empty, and one more",
            "load 0 push 9 clone",
            "launch 1 0 50",
            "checkpoint 1: 2",
            "write 1 2",
            "times 3 launch 1 0 50",
            "checkpoint 1: 5",
            "write 1 5",
            "step 1 2: 8",
            "checkpoint 1: 9",
            "host 1 1: 9",
            "write 1 8: 1",
            "sealed 7: -1",
            "write 1 1: 0",
            "sealed 7: 1");
    }

    private static void everySlotThatIsNotEmptyCounts() {
        Rows.hold(C, "slots that run, leave, have ended and have failed count",
            "load 0 jump 0",
            "load 1 push 3 go",
            "load 2 end",
            "load 3 20",
            "launch 2 0 50",
            "launch 2 1 50",
            "launch 2 2 50",
            "launch 2 3 50",
            "step 2 2",
            "slot 2 0: 1",
            "slot 2 1: 2",
            "slot 2 2: 3",
            "slot 2 3: 4",
            "checkpoint 2: 5",
            "write 2 4: 1",
            "write 2 1: 0",
            "restart 2",
            "slot 2 0: 1",
            "slot 2 1: 2",
            "slot 2 2: 3",
            "slot 2 3: 4");
    }

    private static void writeAtNoSuchHost() {
        Rows.hold(C, "write: IllegalArgumentException when there is no such host", Rows.after(TWO_AT_0,
            "checkpoint 0: 3",
            "checkpoint 3: 1",
            "! write -1 1: IllegalArgumentException",
            "! write 4 1: IllegalArgumentException",
            "! write MIN 1: IllegalArgumentException",
            "! write MAX 1: IllegalArgumentException",
            "write 0 1: 2",
            "write 3 1: 0"));
    }

    private static void nBelowOne() {
        Rows.hold(C, "write: IllegalArgumentException when n is below 1", Rows.after(TWO_AT_0,
            "checkpoint 0: 3",
            "! write 0 0: IllegalArgumentException",
            "! write 0 -1: IllegalArgumentException",
            "! write 0 MIN: IllegalArgumentException",
            "write 0 1: 2",
            "! write 0 0: IllegalArgumentException",
            "write 0 1: 1",
            "! write 0 0: IllegalArgumentException",
            "outputs 0: 0",
            "write 0 1: 0",
            "outputs 0: 1"));
    }

    private static void moreThanAreLeft() {
        for (String n : new String[] {"3", "4", "41", "MAX"}) {
            Rows.hold(C, "n sectors, or all that are left if n is more", Rows.after(TWO_AT_0,
                "checkpoint 0: 3",
                "write 0 " + n + ": 0",
                "host 0 1: 0",
                "sealed 0: 1",
                "! write 0 1: IllegalStateException"));
            Rows.hold(C, "all that are left, after one", Rows.after(TWO_AT_0,
                "checkpoint 0: 3",
                "write 0 1: 2",
                "write 0 " + n + ": 0",
                "outputs 0: 1"));
        }
        Rows.hold(C, "one less than are left", Rows.after(TWO_AT_0,
            "checkpoint 0: 3",
            "write 0 2: 1",
            "host 0 1: 1",
            "sealed 0: -1",
            "outputs 0: 0",
            "write 0 1: 0",
            "sealed 0: 1"));
    }

    private static void writeAtAHostThatIsDown() {
        Rows.hold(C, "write: IllegalStateException when the host is down", Rows.after(TWO_AT_0,
            "checkpoint 0: 3",
            "write 0 1: 2",
            "crash 0",
            "! write 0 1: IllegalStateException",
            "! write 0 9: IllegalStateException",
            "sealed 0: -1",
            "outputs 0: 0"));
    }

    private static void noneIsBeingWritten() {
        Rows.hold(C, "write: IllegalStateException when none is being written", Rows.after(TWO_AT_0,
            "! write 0 1: IllegalStateException",
            "checkpoint 1: 1",
            "! write 0 1: IllegalStateException",
            "checkpoint 0: 3",
            "write 0 3: 0",
            "! write 0 1: IllegalStateException",
            "step 0 1",
            "checkpoint 0: 3",
            "restart 0",
            "! write 0 1: IllegalStateException",
            "! write 0 MAX: IllegalStateException"));
    }

    private static void whichExceptionOfAWrite() {
        Rows.hold(C, "write: n below 1 when none is being written, and when down",
            "! write 0 0: IllegalArgumentException",
            "crash 0",
            "! write 0 0: IllegalArgumentException",
            "! write 0 1: IllegalStateException");
    }

    private static void whenAllSectorsAreWritten() {
        Rows.hold(C, "when all its sectors are written it is the sealed one, not before",
            "load 0 push 7 say push 1 go",
            "launch 0 0 50",
            "step 0 4: 4",
            "checkpoint 0: 2",
            "write 0 1: 1",
            "sealed 0: -1",
            "outputs 0: 0",
            "tick 0: 0",
            "write 0 1: 0",
            "sealed 0: 101",
            "outputs 0: 1",
            "tick 0: 1");
    }

    private static void saidUpToTheCheckpoint() {
        Rows.hold(C, "all that agents said there up to the checkpoint is released",
            "load 0 push 7 say push 8 say push 9 say",
            "launch 0 0 50",
            "step 0 3",
            "checkpoint 0: 2",
            "step 0 1",
            "write 0 9: 0",
            "outputs 0: 1",
            "output 0 0: 7",
            "output 0 1: 2^40",
            "checkpoint 0: 2",
            "write 0 9: 0",
            "outputs 0: 2",
            "output 0 1: 8",
            "output 0 2: 2^40");
    }

    private static void releasedIfItWasNot() {
        Rows.hold(C, "released, if it was not",
            "load 0 push 7 say push 8 say",
            "launch 0 0 50",
            "step 0 2",
            "seal 0",
            "outputs 0: 1",
            "seal 0",
            "outputs 0: 1",
            "restart 0",
            "seal 0",
            "outputs 0: 1",
            "step 0 2",
            "restart 0",
            "step 0 2",
            "seal 0",
            "outputs 0: 2",
            "output 0 0: 7",
            "output 0 1: 8",
            "output 0 2: 2^40");
    }

    private static void owedInTheCopy() {
        Rows.hold(C, "a receipt is sent if it was owed in the copy, when it is sealed", Rows.after(CAME_TO_2,
            "checkpoint 2: 2",
            "write 2 1: 1",
            "message 0 0: -1",
            "write 2 1: 0",
            "message 0 0: 1",
            "message 0 1: 0",
            "message 0 2: 1",
            "message 0 3: 2",
            "message 0 4: 0",
            "message 1 0: -1",
            "seal 2",
            "message 1 0: -1"));
        Rows.hold(C, "one that came after the checkpoint began is owed till the next",
            "load 0 push 2 go",
            "launch 0 0 90",
            "step 0 2",
            "send 0",
            "checkpoint 2: 1",
            "net 0 0: 0",
            "write 2 1: 0",
            "message 0 0: -1",
            "checkpoint 2: 2",
            "write 2 2: 0",
            "message 0 0: 1");
        Rows.hold(C, "only the memory owes it no more: the sealed copy does, after a crash", Rows.after(CAME_TO_2,
            "seal 2",
            "net 0 1: 0",
            "restart 2",
            "message 0 0: -1",
            "seal 2",
            "message 0 2: 1",
            "seal 2",
            "message 1 0: -1"));
    }

    private static void theSameNumberOfHopsStill() {
        Rows.hold(C, "the memory owes it no more, if it knows the same number of hops still", Rows.after(CAME_TO_2,
            "step 2 2",
            "seal 2",
            "tick 2: 2",
            "net 1 0: 1",
            "agent 0 0 1: 2",
            "step 0 2",
            "seal 0",
            "tick 0: 3",
            "message 2 2: 3",
            "restart 2",
            "checkpoint 2: 2",
            "host 2 10: 1",
            "net 2 0: 2",
            "host 2 10: 3",
            "write 2 9: 0",
            "message 2 0: 1",
            "message 2 2: 1",
            "message 3 0: -1",
            "seal 2",
            "message 3 0: 1",
            "message 3 2: 3",
            "message 3 4: 0",
            "seal 2",
            "message 4 0: -1"));
    }

    /** A host that starts owes again what its sealed copy owes; one that comes then is owed instead. */
    private static void theLatestThatCameIsOwed() {
        Rows.hold(C, "a receipt is owed to the host it came from, though one is owed to another",
            "load 0 push 2 go push 1 go push 2 go",
            "launch 0 0 90",
            "step 0 2",
            "send 0",
            "net 0 0: 0",
            "step 2 2",
            "seal 2",
            "net 0 1: 0",
            "tick 2: 1",
            "restart 2",
            "net 0 0: 0",
            "step 1 2",
            "send 1",
            "net 1 0: 1",
            "host 2 10: 3",
            "seal 2",
            "message 1 0: 1",
            "message 1 2: 3",
            "message 1 3: 2",
            "message 1 4: 1",
            "message 2 0: -1",
            "seal 2",
            "message 2 0: -1");
    }

    private static void aReceiptComesWhileACopyIsWritten() {
        Rows.hold(C, "a receipt makes the slot empty in the memory, not in the copy that is being written", Rows.after(CAME_TO_2,
            "seal 2",
            "checkpoint 0: 2",
            "net 0 0: 0",
            "slot 0 0: 0",
            "host 0 1: 2",
            "write 0 2: 0",
            "slot 0 0: 0",
            "tick 0: 0",
            "restart 0",
            "slot 0 0: 2",
            "agent 0 0 1: 1",
            "tick 0: 1",
            "message 0 2: 1"));
    }

    private static void receiptsWithoutRoom() {
        String[] fourCame = {"load 0 push 1 go", "times 4 launch 0 0 50", "step 0 2", "send 0", "times 4 net 0 2",
            "times 4 net 0 0"};
        Rows.hold(C, "a receipt is lost if there are 20, and owed no more", Rows.after(fourCame,
            "times 14 net 0 2",
            "tick 1: 18",
            "checkpoint 1: 5",
            "write 1 5: 0",
            "tick 1: 20",
            "message 18 0: 1",
            "message 18 1: 0",
            "message 19 0: 1",
            "message 19 1: 1",
            "message 20 0: -1",
            "net 19 1: 19",
            "net 18 1: 18",
            "seal 1",
            "tick 1: 18"));
        Rows.hold(C, "room for all four receipts", Rows.after(fourCame,
            "times 12 net 0 2",
            "seal 1",
            "tick 1: 20",
            "message 16 1: 0",
            "message 19 1: 3"));
        Rows.hold(C, "room for none of the receipts", Rows.after(fourCame,
            "times 16 net 0 2",
            "seal 1",
            "tick 1: 20",
            "message 19 0: 0",
            "sealed 3: 101"));
    }

    private static void crashAtNoSuchHost() {
        Rows.hold(C, "crash: IllegalArgumentException when there is no such host", Rows.after(TWO_AT_0,
            "! crash -1: IllegalArgumentException",
            "! crash 4: IllegalArgumentException",
            "! crash MIN: IllegalArgumentException",
            "! crash MAX: IllegalArgumentException",
            "crash 0: true",
            "crash 3: true",
            "! crash -1: IllegalArgumentException",
            "! crash 4: IllegalArgumentException",
            "host 1 0: 1",
            "host 2 0: 1"));
    }

    private static void crashWhenDown() {
        Rows.hold(C, "crash: false when it is down", Rows.after(TWO_AT_0,
            "seal 0",
            "crash 0: true",
            "! crash 0: false",
            "crash 1: true",
            "start 0: true",
            "slot 0 0: 1",
            "crash 0: true"));
    }

    private static void startAtNoSuchHost() {
        Rows.hold(C, "start: IllegalArgumentException when there is no such host", Rows.after(TWO_AT_0,
            "crash 0",
            "crash 3",
            "! start -1: IllegalArgumentException",
            "! start 4: IllegalArgumentException",
            "! start MIN: IllegalArgumentException",
            "! start MAX: IllegalArgumentException",
            "start 0: true",
            "start 3: true",
            "! start -1: IllegalArgumentException",
            "! start 4: IllegalArgumentException"));
    }

    private static void startWhenUp() {
        Rows.hold(C, "start: false when it is up: its memory stays, and the copy that is written", Rows.after(TWO_AT_0,
            "! start 0: false",
            "seal 0",
            "step 0 3",
            "checkpoint 0: 3",
            "write 0 1: 2",
            "! start 0: false",
            "host 0 1: 2",
            "crash 0: true",
            "start 0: true",
            "! start 0: false"));
    }

    private static void theCopyThatIsNotSealedIsGone() {
        Rows.hold(C, "a crash: its memory and a copy that is not sealed are gone, but for one sector written", Rows.after(
            TWO_AT_0,
            "seal 0",
            "step 0 1: 2",
            "checkpoint 0: 3",
            "write 0 2: 1",
            "crash 0: true",
            "host 0 1: 0",
            "slot 0 0: -1",
            "start 0: true",
            "host 0 1: 0",
            "agent 0 0 2: 48",
            "checkpoint 0: 3",
            "write 0 3: 0",
            "restart 0",
            "agent 0 0 2: 48"));
        Rows.hold(C, "the copy was sealed with its last sector", Rows.after(TWO_AT_0,
            "seal 0",
            "step 0 1: 2",
            "checkpoint 0: 3",
            "write 0 3: 0",
            "restart 0",
            "agent 0 0 2: 47"));
    }

    private static void theSealedCopyAtFirst() {
        Rows.hold(C, "a copy that is sealed, at first an empty memory", Rows.after(TWO_AT_0,
            "crash 0: true",
            "start 0: true",
            "slot 0 0: 0",
            "slot 0 1: 0",
            "host 0 10: -1",
            "checkpoint 0: 1",
            "write 0 1: 0",
            "outputs 0: 0",
            "launch 0 0 50: 2"));
        Rows.hold(C, "an empty memory has no note, and owes nothing",
            "load 0 push 1 go push 2 go",
            "launch 0 0 90",
            "step 0 2",
            "send 0",
            "net 0 0: 0",
            "step 1 2",
            "host 1 2: 2",
            "host 1 10: 1",
            "restart 1",
            "slot 1 0: 0",
            "host 1 2: -1",
            "host 1 10: -1",
            "checkpoint 1: 1",
            "write 1 1: 0",
            "message 0 0: -1");
    }

    private static void allOfAMemoryIsSealed() {
        Rows.hold(C, "when it starts its memory becomes the sealed copy: both parts of a pair, and what was said",
            "load 0 push 4 push 5 pair push 6 say pick 0 push 7 setfirst pick 0 push 8 setsecond pick 0 first say second say",
            "launch 0 0 90",
            "step 0 5",
            "seal 0",
            "step 0 6",
            "restart 0",
            "agent 0 0 0: 8",
            "agent 0 0 3: 1",
            "agent 0 0 6: 1",
            "step 0 40",
            "seal 0",
            "outputs 0: 3",
            "output 0 0: 6",
            "output 0 1: 7",
            "output 0 2: 8");
        Rows.hold(C, "the parts of the copy's pair are those of its beginning",
            "load 0 push 4 push 5 pair pick 0 first say pick 0 second say pick 0 push 7 setfirst pick 0 push 8 setsecond jump 5",
            "launch 0 0 90",
            "step 0 3",
            "checkpoint 0: 2",
            "step 0 13",
            "write 0 9: 0",
            "restart 0",
            "step 0 6",
            "seal 0",
            "output 0 0: 4",
            "output 0 1: 5");
    }

    /** What is below and above a pair on the stack does not matter to its copy. */
    private static void pairsOfAStackOfAnySize() {
        for (int above = 0; above <= 5; above++) {
            StringBuilder program = new StringBuilder("load 0 push 4 push 5 pair ");
            for (int i = 0; i < above; i++) {
                program.append("push 0 ");
            }
            for (int i = 0; i < above; i++) {
                program.append("drop ");
            }
            program.append("pick 0 first say pick 0 second say pick 0 push 7 setfirst pick 0 push 8 setsecond");
            Rows.hold(C, "its memory becomes the sealed copy: a pair below " + above + " values", program.toString(),
                "launch 0 0 90",
                "step 0 " + (3 + above),
                "seal 0",
                "step 0 " + (12 + above) + ": " + (12 + above),
                "restart 0",
                "agent 0 0 5: " + (1 + above),
                "agent 0 0 6: 1",
                "step 0 " + (6 + above) + ": " + (6 + above),
                "seal 0",
                "outputs 0: 2",
                "output 0 0: 4",
                "output 0 1: 5");
        }
    }

    private static void messagesOutliveACrash() {
        Rows.hold(C, "what is under way is not in a memory",
            "load 0 push 1 go",
            "launch 0 0 50",
            "step 0 2",
            "send 0",
            "crash 0: true",
            "message 0 5: 11",
            "net 0 0: 0",
            "slot 1 0: 1",
            "seal 1",
            "crash 1: true",
            "message 0 0: 1",
            "start 0",
            "net 0 0: 0",
            "slot 0 0: 0");
    }
}
