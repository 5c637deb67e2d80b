import java.util.ArrayList;
import java.util.List;

/** The boundary cases of promises 13 to 16: slot, agent, host and sealed. */
public final class LookEdgesTest {
    private static final Check C = new Check("LookEdgesTest");

    /** Agents 3 and 7, its child, leave host 3 for hosts 0 and 1; agents 0 .. 2 run at host 0. */
    private static final String[] BUSY = {"load 0 push 9 clone go", "load 1 jump 0", "times 3 launch 0 1 50",
        "launch 3 0 90", "step 3 3"};

    public static void main(String[] args) {
        slotOfNoneSuch();
        slotWhenDown();
        agentOfNoneSuch();
        agentWithAnEmptySlot();
        agentOfNoSuchWhat();
        kindsOfAFullStack();
        agentWhenDown();
        hostOfNoneSuch();
        hostOfNoSuchWhat();
        hostWhenDown();
        sectorsLeft();
        theNoteIsTheLatest();
        theGreatestHopsKnown();
        sealedOfNoneSuch();
        theGreatestNumberOfHops();
        notLeavingOrLeaving();
        sealedWhenDown();
        C.finish();
    }

    private static void slotOfNoneSuch() {
        Rows.hold(C, "slot: NONE when there is none such", Rows.after(BUSY,
            "slot -1 0: -1",
            "slot 4 0: -1",
            "slot 0 -1: -1",
            "slot 0 8: -1",
            "slot 3 -1: -1",
            "slot 3 8: -1",
            "slot 0 0: 1",
            "slot 3 7: 2",
            "slot 0 7: 0",
            "slot 3 0: 0",
            "slot MIN 0: -1",
            "slot MAX 0: -1",
            "slot 0 MIN: -1",
            "slot 0 MAX: -1"));
    }

    private static void slotWhenDown() {
        Rows.hold(C, "slot: NONE when the host is down", Rows.after(BUSY,
            "seal 3",
            "crash 3",
            "slot 3 3: -1",
            "slot 3 0: -1",
            "slot 0 0: 1",
            "start 3",
            "slot 3 3: 2",
            "slot 3 0: 0"));
    }

    private static void agentOfNoneSuch() {
        Rows.hold(C, "agent: NONE when there is no such host or agent", Rows.after(BUSY,
            "agent -1 0 2: -1",
            "agent 4 0 2: -1",
            "agent 0 -1 2: -1",
            "agent 3 8 2: -1",
            "agent 0 0 2: 50",
            "agent 3 7 2: 8",
            "agent MIN 0 2: -1",
            "agent MAX 0 2: -1",
            "agent 0 MIN 2: -1",
            "agent 0 MAX 2: -1"));
    }

    private static void agentWithAnEmptySlot() {
        Rows.hold(C, "agent: NONE when its slot at the host is empty", Rows.after(BUSY,
            "agent 0 3 2: -1",
            "agent 0 3 10: -1",
            "agent 3 0 2: -1",
            "agent 1 0 0: -1",
            "send 3",
            "net 0 0: 1",
            "agent 0 3 1: 1",
            "seal 0",
            "net 1 0: 1",
            "slot 3 3: 0",
            "agent 3 3 0: -1",
            "agent 3 3 1: -1",
            "agent 3 3 2: -1",
            "agent 3 3 6: -1"));
        for (String bytes : new String[] {"jump 0", "push 3 go", "end", "20"}) {
            Rows.hold(C, "agent: of a slot that is not empty, whichever it is",
                "load 0 " + bytes,
                "launch 0 0 50",
                "step 0 1",
                "agent 0 0 2: 49");
        }
    }

    private static void agentOfNoSuchWhat() {
        Rows.hold(C, "agent: NONE for a what that is none of 0 .. 6 and no value",
            "load 0 push 1 push 2 push 3 pair",
            "launch 0 0 50",
            "step 0 4",
            "agent 0 0 -1: -1",
            "agent 0 0 0: 7",
            "agent 0 0 6: 1",
            "agent 0 0 7: -1",
            "agent 0 0 8: -1",
            "agent 0 0 9: -1",
            "agent 0 0 10: 0",
            "agent 0 0 11: 1",
            "agent 0 0 12: -1",
            "agent 0 0 13: -1",
            "agent 0 0 15: -1",
            "agent 0 0 16: -1",
            "agent 0 0 MIN: -1",
            "agent 0 0 MAX: -1");
        Rows.hold(C, "agent: no value of an empty stack",
            "launch 0 0 50",
            "agent 0 0 5: 0",
            "agent 0 0 10: -1");
    }

    private static void kindsOfAFullStack() {
        Rows.hold(C, "agent: the kind of value i, from 0, the lowest one, to 5",
            "load 0 push 1 push 2 pair push 3 push 4 push 5 push 6 push 7 push 8 pair",
            "launch 0 0 50",
            "step 0 8",
            "agent 0 0 5: 6",
            "agent 0 0 10: 1",
            "agent 0 0 11: 0",
            "agent 0 0 15: 0",
            "agent 0 0 16: -1",
            "step 0 1: 1",
            "slot 0 0: 4");
        Rows.hold(C, "agent: a value that was taken is there no more",
            "load 0 push 1 push 2 pair drop push 3",
            "launch 0 0 50",
            "step 0 3",
            "agent 0 0 10: 1",
            "step 0 1",
            "agent 0 0 10: -1",
            "agent 0 0 6: 0",
            "step 0 1",
            "agent 0 0 10: 0");
    }

    private static void agentWhenDown() {
        Rows.hold(C, "agent: NONE when the host is down", Rows.after(BUSY,
            "seal 0",
            "crash 0",
            "agent 0 0 0: -1",
            "agent 0 0 2: -1",
            "agent 0 0 6: -1",
            "agent 3 3 1: 1",
            "start 0",
            "agent 0 0 2: 50"));
    }

    private static void hostOfNoneSuch() {
        Rows.hold(C, "host: NONE when there is no such host", Rows.after(BUSY,
            "host -1 0: -1",
            "host -1 1: -1",
            "host 4 0: -1",
            "host 4 1: -1",
            "host 0 0: 1",
            "host 3 0: 1",
            "host MIN 0: -1",
            "host MAX 0: -1"));
    }

    private static void hostOfNoSuchWhat() {
        Rows.hold(C, "host: NONE for a what that is none of 0 .. 17", Rows.after(BUSY,
            "host 3 -1: -1",
            "host 3 0: 1",
            "host 3 1: 0",
            "host 3 2: -1",
            "host 3 4: -1",
            "host 3 5: 0",
            "host 3 8: -1",
            "host 3 9: 1",
            "host 3 10: -1",
            "host 3 12: -1",
            "host 3 13: 0",
            "host 3 16: -1",
            "host 3 17: 0",
            "host 0 10: 0",
            "host 0 2: -1",
            "host 3 18: -1",
            "host 3 19: -1",
            "host 3 MIN: -1",
            "host 3 MAX: -1"));
    }

    private static void hostWhenDown() {
        List<String> rows = new ArrayList<>(List.of(Rows.after(BUSY, "seal 3", "checkpoint 3: 3", "crash 3: true",
            "host 3 0: 0", "host 3 1: 0")));
        for (int what = 2; what < 18; what++) {
            rows.add("host 3 " + what + ": -1");
        }
        rows.add("host 3 18: -1");
        rows.add("host 3 -1: -1");
        rows.add("host 0 10: 0");
        rows.add("start 3: true");
        rows.add("host 3 0: 1");
        rows.add("host 3 1: 0");
        rows.add("host 3 5: 0");
        rows.add("host 3 13: 0");
        Rows.hold(C, "host: NONE for notes and hops when it is down, 0 for up and sectors", rows);
    }

    private static void sectorsLeft() {
        Rows.hold(C, "host: how many sectors are left, 0 when no checkpoint is being written", Rows.after(BUSY,
            "host 3 1: 0",
            "checkpoint 3: 3",
            "host 3 1: 3",
            "host 0 1: 0",
            "write 3 1: 2",
            "host 3 1: 2",
            "write 3 1: 1",
            "host 3 1: 1",
            "write 3 1: 0",
            "host 3 1: 0"));
    }

    private static void theNoteIsTheLatest() {
        Rows.hold(C, "a note, which host it left for latest, or none",
            "load 0 push 0 go push 1 go push 0 go push 2 go",
            "launch 0 0 90",
            "step 0 2",
            "host 0 2: -1",
            "agent 0 0 1: 0",
            "step 0 2",
            "host 0 2: 1",
            "send 0",
            "net 0 0: 0",
            "host 1 2: -1",
            "step 1 2",
            "host 1 2: 0",
            "send 1",
            "net 1 0: 1",
            "host 0 2: 1",
            "step 0 2",
            "host 0 2: 2",
            "host 1 2: 0");
    }

    private static void theGreatestHopsKnown() {
        Rows.hold(C, "the greatest of any that came, was launched (0) or cloned (0) there, NONE before",
            "load 0 push 1 go push 9 clone push 0 go",
            "host 0 10: -1",
            "launch 0 0 90",
            "host 0 10: 0",
            "step 0 2",
            "agent 0 0 1: 1",
            "host 0 10: 0",
            "send 0",
            "host 1 10: -1",
            "net 0 2: 2",
            "net 0 0: 1",
            "host 1 10: 1",
            "host 1 14: -1",
            "step 1 2",
            "host 1 14: 0",
            "host 0 14: -1",
            "step 1 2",
            "send 1",
            "net 2 0: 3",
            "host 0 10: 2",
            "net 0 0: 3",
            "host 1 10: 1",
            "restart 0",
            "host 0 10: 0");
    }

    private static void sealedOfNoneSuch() {
        Rows.hold(C, "sealed: NONE when no sealed copy has it, or there is no such agent", Rows.after(BUSY,
            "sealed -1: -1",
            "sealed 8: -1",
            "sealed 0: -1",
            "sealed 7: -1",
            "seal 3",
            "seal 0",
            "sealed -1: -1",
            "sealed 8: -1",
            "sealed 0: 1",
            "sealed 3: 101",
            "sealed 7: 101",
            "sealed 4: -1",
            "sealed MIN: -1",
            "sealed MAX: -1"));
    }

    private static void theGreatestNumberOfHops() {
        Rows.hold(C, "sealed: the greatest number of hops, though others have it with less",
            "load 0 push 1 go push 2 go push 3 go end",
            "launch 0 0 90",
            "seal 0",
            "sealed 0: 1",
            "step 0 2",
            "send 0",
            "sealed 0: 101",
            "net 0 0: 0",
            "sealed 0: 101",
            "seal 1",
            "sealed 0: 101",
            "net 0 1: 0",
            "step 1 2",
            "send 1",
            "sealed 0: 201",
            "net 0 0: 0",
            "seal 2",
            "sealed 0: 201",
            "net 0 1: 0",
            "step 2 2",
            "send 2",
            "sealed 0: 301",
            "net 0 0: 0",
            "step 3 1",
            "slot 3 0: 3",
            "sealed 0: 301",
            "seal 3",
            "sealed 0: 301");
    }

    /** Of the sealed copies with the most hops one has it there, or else one has it leaving. */
    private static void notLeavingOrLeaving() {
        Rows.hold(C, "sealed: in a slot that is not empty, and it has left there",
            "load 0 push 1 go push 0 go end",
            "launch 0 0 90",
            "step 0 2",
            "send 0",
            "net 0 0: 0",
            "seal 1",
            "net 0 0: 0",
            "seal 0",
            "slot 0 0: 0",
            "sealed 0: 101",
            "step 1 2",
            "send 1",
            "sealed 0: 201",
            "net 0 0: 0",
            "seal 0",
            "net 0 0: 0",
            "slot 1 0: 0",
            "seal 1",
            "sealed 0: 201",
            "step 0 1",
            "seal 0",
            "sealed 0: 201");
    }

    private static void sealedWhenDown() {
        Rows.hold(C, "sealed: hosts that are down count by their sealed copies", Rows.after(BUSY,
            "seal 3",
            "crash 3",
            "sealed 3: 101",
            "sealed 7: 101",
            "sealed 0: -1",
            "crash 0",
            "sealed 0: -1",
            "start 3",
            "sealed 3: 101"));
    }
}
