import java.util.ArrayList;
import java.util.List;

/** The boundary cases of promises 5 and 6: step and tick. */
public final class StepEdgesTest {
    private static final Check C = new Check("StepEdgesTest");

    public static void main(String[] args) {
        stepAtNoSuchHost();
        nIsOneToForty();
        stepAtAHostThatIsDown();
        whichExceptionOfAStep();
        asTheRoundBegins();
        fromZeroOn();
        hasFuel();
        nothingToWait();
        oneThatIsCloned();
        thoseThatFailedCountToo();
        tickAtNoSuchHost();
        tickAtAHostThatIsDown();
        oneTickLess();
        onlyThoseThatRunWaitLess();
        leavingInMemoryAndSealedCopy();
        asManyHopsInTheSealedCopy();
        theMessagesUnderWayThen();
        fiveHundredAndTwelveCalls();
        theSameCallTillThe512th();
        changesTillThe512th();
        C.finish();
    }

    private static void stepAtNoSuchHost() {
        Rows.hold(C, "step: IllegalArgumentException when there is no such host",
            "load 0 jump 0",
            "launch 0 0 100",
            "launch 3 0 100",
            "! step -1 1: IllegalArgumentException",
            "! step 4 1: IllegalArgumentException",
            "! step MIN 1: IllegalArgumentException",
            "! step MAX 40: IllegalArgumentException",
            "step 0 1: 1",
            "step 3 1: 1");
    }

    private static void nIsOneToForty() {
        Rows.hold(C, "step: IllegalArgumentException when n is not 1 .. 40",
            "load 0 jump 0",
            "launch 0 0 200",
            "! step 0 0: IllegalArgumentException",
            "! step 0 -1: IllegalArgumentException",
            "! step 0 41: IllegalArgumentException",
            "! step 0 MIN: IllegalArgumentException",
            "! step 0 MAX: IllegalArgumentException",
            "step 0 1: 1",
            "agent 0 0 2: 199",
            "step 0 40: 40",
            "agent 0 0 2: 159",
            "step 0 39: 39",
            "agent 0 0 2: 120");
    }

    private static void stepAtAHostThatIsDown() {
        Rows.hold(C, "step: IllegalStateException when the host is down",
            "load 0 jump 0",
            "launch 2 0 100",
            "seal 2",
            "crash 2",
            "! step 2 1: IllegalStateException",
            "! step 2 40: IllegalStateException",
            "step 1 1: 0",
            "start 2",
            "step 2 1: 1",
            "agent 2 0 2: 99");
    }

    private static void whichExceptionOfAStep() {
        Rows.hold(C, "step: a wrong n at a host that is down",
            "crash 0",
            "! step 0 0: IllegalArgumentException",
            "! step 0 41: IllegalArgumentException",
            "! step 0 40: IllegalStateException");
    }

    private static void asTheRoundBegins() {
        Rows.hold(C, "each agent that runs at host h as the round begins",
            "load 0 push 1 go push 5 say",
            "load 1 end",
            "load 2 20",
            "load 3 jump 0",
            "launch 0 0 50",
            "launch 0 1 50",
            "launch 0 2 50",
            "launch 0 3 50",
            "step 0 1: 4",
            "slot 0 1: 3",
            "slot 0 2: 4",
            "step 0 1: 2",
            "slot 0 0: 2",
            "step 0 1: 1",
            "agent 0 0 2: 48",
            "agent 0 1 2: 49",
            "agent 0 2 2: 49",
            "step 0 40: 40");
    }

    /** Agents of one round do not meet, so their order is seen by the arrivals of the tick alone. */
    private static void fromZeroOn() {
        Rows.hold(C, "from 0 on, to the last one: all eight have their turns, and their arrivals are sent in this order",
            "load 0 push 9 clone push 2 add go",
            "times 4 launch 0 0 50",
            "step 0 1: 4",
            "step 0 1: 4",
            "step 0 1: 8",
            "step 0 2: 16",
            "step 0 1: 0",
            "checkpoint 0: 9",
            "write 0 9: 0",
            "tick 0: 8",
            "message 0 1: 0",
            "message 3 1: 3",
            "message 4 1: 4",
            "message 7 1: 7",
            "message 3 4: 2",
            "message 4 4: 3");
    }

    private static void hasFuel() {
        Rows.hold(C, "without fuel an agent does nothing",
            "load 0 push 1 drop jump 0",
            "launch 0 0 1",
            "launch 0 0 2",
            "launch 0 0 3",
            "step 0 1: 3",
            "agent 0 0 2: 0",
            "agent 0 0 5: 1",
            "step 0 1: 2",
            "agent 0 0 0: 2",
            "agent 0 0 5: 1",
            "agent 0 1 2: 0",
            "step 0 1: 1",
            "step 0 40: 0",
            "slot 0 0: 1",
            "slot 0 1: 1",
            "slot 0 2: 1",
            "tick 0: 0",
            "step 0 1: 0");
        Rows.hold(C, "an instruction that fails with the last fuel",
            "load 0 drop",
            "launch 0 0 1",
            "step 0 2: 1",
            "slot 0 0: 4",
            "agent 0 0 2: 0",
            "step 0 1: 0");
        Rows.hold(C, "an agent goes and ends with its last fuel",
            "load 0 push 1 go end",
            "launch 0 0 2",
            "step 0 40: 2",
            "slot 0 0: 2",
            "agent 0 0 2: 0",
            "send 0",
            "net 0 0: 0",
            "slot 1 0: 1",
            "step 1 40: 0",
            "slot 1 0: 1",
            "launch 2 0 3",
            "expected 1: 0");
    }

    private static void nothingToWait() {
        Rows.hold(C, "has nothing to wait: after just so many ticks",
            "load 0 push 2 wait push 5",
            "launch 0 0 50",
            "step 0 40: 2",
            "agent 0 0 4: 2",
            "step 0 40: 0",
            "tick 0: 0",
            "agent 0 0 4: 1",
            "step 0 40: 0",
            "tick 0: 0",
            "agent 0 0 4: 0",
            "step 0 1: 1");
        Rows.hold(C, "0 ticks are nothing to wait",
            "load 0 push 0 wait push 5",
            "launch 0 0 50",
            "step 0 3: 3",
            "agent 0 0 5: 1");
        List<String> twenty = new ArrayList<>(List.of("load 0 push 20 wait end", "launch 0 0 50", "step 0 40: 2"));
        for (int left = 19; left >= 0; left--) {
            twenty.add("step 0 40: 0");
            twenty.add("tick 0: 0");
            twenty.add("agent 0 0 4: " + left);
        }
        twenty.add("step 0 40: 1");
        twenty.add("slot 0 0: 3");
        Rows.hold(C, "20 ticks to wait", twenty);
    }

    private static void oneThatIsCloned() {
        Rows.hold(C, "one that is cloned in the round does none in it, but in the next",
            "load 0 push 9 clone jump 3",
            "launch 3 0 50",
            "step 3 1: 1",
            "step 3 1: 1",
            "slot 3 4: 1",
            "agent 3 4 0: 3",
            "agent 3 4 2: 9",
            "step 3 1: 2",
            "agent 3 4 2: 8");
        Rows.hold(C, "the same within one call of 40 rounds",
            "load 0 push 9 clone jump 3",
            "launch 3 0 200",
            "step 3 40: 49",
            "agent 3 4 2: 0",
            "agent 3 0 2: 151");
    }

    private static void thoseThatFailedCountToo() {
        Rows.hold(C, "how many instructions were done (those that failed, too)",
            "load 0 20",
            "load 1 push 1",
            "launch 0 0 50",
            "launch 0 1 50",
            "step 0 40: 3",
            "slot 0 0: 4",
            "slot 0 1: 4",
            "step 0 40: 0");
        Rows.hold(C, "no agent: no instruction", "step 0 1: 0", "step 3 40: 0");
    }

    private static void tickAtNoSuchHost() {
        Rows.hold(C, "tick: IllegalArgumentException when there is no such host",
            "load 0 push 5 wait",
            "launch 0 0 9",
            "launch 3 0 9",
            "step 0 2",
            "step 3 2",
            "! tick -1: IllegalArgumentException",
            "! tick 4: IllegalArgumentException",
            "! tick MIN: IllegalArgumentException",
            "! tick MAX: IllegalArgumentException",
            "tick 0: 0",
            "tick 3: 0",
            "agent 0 0 4: 4",
            "agent 3 1 4: 4");
    }

    private static void tickAtAHostThatIsDown() {
        Rows.hold(C, "tick: IllegalStateException when the host is down",
            "load 0 push 5 wait",
            "load 1 push 1 go",
            "launch 0 0 9",
            "launch 0 1 9",
            "step 0 2",
            "seal 0",
            "crash 0",
            "! tick 0: IllegalStateException",
            "start 0",
            "agent 0 0 4: 5",
            "tick 0: 1",
            "agent 0 0 4: 4");
    }

    private static void oneTickLess() {
        Rows.hold(C, "each agent that has ticks to wait has one less, none has less than none",
            "load 0 push 1 wait jump 3",
            "load 1 push 2 wait jump 3",
            "load 2 jump 0",
            "launch 0 0 50",
            "launch 0 1 50",
            "launch 0 2 50",
            "launch 1 0 50",
            "step 0 2",
            "step 1 2",
            "tick 0: 0",
            "agent 0 0 4: 0",
            "agent 0 1 4: 1",
            "agent 0 2 4: 0",
            "agent 1 3 4: 1",
            "tick 0: 0",
            "agent 0 0 4: 0",
            "agent 0 1 4: 0",
            "tick 0: 0",
            "agent 0 1 4: 0",
            "agent 1 3 4: 1");
        Rows.hold(C, "an agent without fuel waits less, too",
            "load 0 push 3 wait",
            "launch 0 0 2",
            "step 0 2: 2",
            "tick 0: 0",
            "agent 0 0 4: 2",
            "agent 0 0 2: 0");
    }

    private static void onlyThoseThatRunWaitLess() {
        Rows.hold(C, "in the memory alone: the sealed copy waits as long as it did",
            "load 0 push 5 wait",
            "launch 0 0 50",
            "step 0 2",
            "seal 0",
            "tick 0: 0",
            "tick 0: 0",
            "agent 0 0 4: 3",
            "restart 0",
            "agent 0 0 4: 5");
    }

    private static void leavingInMemoryAndSealedCopy() {
        Rows.hold(C, "an arrival is sent for one that is leaving in the memory and in the sealed copy",
            "load 0 push 1 go",
            "launch 0 0 50",
            "step 0 2: 2",
            "tick 0: 0",
            "checkpoint 0: 2",
            "tick 0: 0",
            "write 0 1: 1",
            "tick 0: 0",
            "write 0 1: 0",
            "tick 0: 1",
            "tick 0: 2",
            "tick 1: 2");
        Rows.hold(C, "leaving in the sealed copy, not in the memory",
            "load 0 push 1 go",
            "launch 0 0 50",
            "step 0 2",
            "send 0",
            "net 0 0: 0",
            "seal 1",
            "net 0 0: 0",
            "slot 0 0: 0",
            "sealed 0: 101",
            "tick 0: 0",
            "restart 0",
            "slot 0 0: 2",
            "tick 0: 1");
        Rows.hold(C, "leaving in the memory, running in the sealed copy",
            "load 0 push 1 go",
            "launch 0 0 50",
            "step 0 1",
            "seal 0",
            "step 0 1: 1",
            "slot 0 0: 2",
            "tick 0: 0");
    }

    private static void asManyHopsInTheSealedCopy() {
        Rows.hold(C, "leaving in both, but with other hops",
            "load 0 push 1 go push 0 go push 2 go",
            "launch 0 0 50",
            "step 0 2",
            "send 0",
            "net 0 0: 0",
            "step 1 2",
            "send 1",
            "net 1 0: 1",
            "net 0 1: 0",
            "step 0 2",
            "agent 0 0 1: 3",
            "slot 0 0: 2",
            "tick 0: 0",
            "seal 0",
            "net 0 1: 0",
            "tick 0: 1",
            "message 0 2: 3",
            "message 0 4: 2");
    }

    private static void theMessagesUnderWayThen() {
        Rows.hold(C, "how many messages are under way then: those of others count, 20 at most",
            "load 0 push 1 go",
            "launch 0 0 50",
            "launch 0 0 50",
            "step 0 2",
            "seal 0",
            "tick 0: 2",
            "tick 3: 2",
            "times 17 net 0 2",
            "tick 1: 19",
            "tick 0: 20",
            "message 19 1: 0",
            "tick 0: 20",
            "message 20 0: -1",
            "tick 2: 20",
            "net 0 1: 19",
            "net 0 1: 18",
            "tick 0: 20",
            "message 18 1: 0",
            "message 19 1: 1");
    }

    private static void fiveHundredAndTwelveCalls() {
        List<String> rows = new ArrayList<>(List.of("load 0 push 7 say", "launch 0 0 50"));
        for (int i = rows.size(); i < 506; i++) {
            rows.add("host 0 0: 1");
        }
        rows.add("step 0 2: 2");
        rows.add("checkpoint 0: 2");
        rows.add("write 0 9: 0");
        rows.add("crash 0: true");
        rows.add("start 0: true");
        rows.add("output 0 0: 7");
        C.same("calls", rows.size(), 512);
        Rows.hold(C, "an object is used for at most 512 calls", rows);
    }

    /** Each call of the face answers as at first when it is made over and over, up to the 512th call. */
    private static void theSameCallTillThe512th() {
        for (String[] again : new String[][] {{"table 3 7 5: true"}, {"program 3 0 9: -1"}, {"message 0 2: 1"}, {"slot 0 0: 2"},
            {"agent 0 0 0: 6"}, {"host 0 2: 1"}, {"sealed 0: 101"}, {"outputs 0: 1"}, {"output 0 0: 7"}, {"expected 0: 1"},
            {"expectedOutput 0 0: 7"}, {"step 1 1: 0"}, {"tick 1: 1"}, {"launch 4 0 1: IllegalArgumentException"},
            {"checkpoint 1: 1", "write 1 1: 0"}, {"crash 1: true", "start 1: true"}, {"net 0 2: 2", "net 0 1: 1"},
            {"checkpoint 0: 2", "write 0 1: 1", "write 0 1: 0"}}) {
            List<String> rows = new ArrayList<>();
            if (!again[0].startsWith("table")) {
                rows.addAll(List.of("program 0 0x0107080101 5: 5", "program 0 9 1: 6", "launch 0 0 50: 0", "step 0 4: 4",
                    "checkpoint 0: 2", "write 0 2: 0", "tick 0: 1"));
            }
            for (int i = 0; rows.size() < 512; i++) {
                rows.add(again[i % again.length]);
            }
            Rows.hold(C, "at most 512 calls, the last of them " + rows.get(511), rows);
        }
    }

    /** What a call changes it changes up to the 512th, however often the same call was made before. */
    private static void changesTillThe512th() {
        for (String[] before : new String[][] {{"tick 1: 0"}, {"step 1 1: 0"}, {"checkpoint 1: 1", "write 1 1: 0"},
            {"crash 1: true", "start 1: true"}, {"slot 0 0: 1"}}) {
            List<String> rows = new ArrayList<>(List.of("program 0 0x01020D0107080000 8: 8", "launch 0 0 50: 0", "step 0 2: 2"));
            for (int i = 0; rows.size() < 512 - 9; i++) {
                rows.add(before[i % before.length]);
            }
            rows.addAll(List.of("tick 0: 0", "tick 0: 0", "agent 0 0 4: 0", "step 0 2: 2", "checkpoint 0: 2", "write 0 2: 0",
                "output 0 0: 7", "crash 0: true", "start 0: true"));
            Rows.hold(C, "ticks, rounds, sectors and crashes up to the 512th call, after many like " + before[0], rows);
        }
    }
}
