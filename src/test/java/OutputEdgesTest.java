import java.util.ArrayList;
import java.util.List;

/** The boundary cases of promises 17 to 20: outputs, output, expected and expectedOutput. */
public final class OutputEdgesTest {
    private static final Check C = new Check("OutputEdgesTest");

    /** Agent 0 says 7 and 8; its child says 1. */
    private static final String[] SAYS = {"load 0 push 7 say push 8 say push 9 clone jumpif 12 end push 1 say end",
        "launch 0 0 90"};

    public static void main(String[] args) {
        outputsOfNoSuchAgent();
        outputThatIsNone();
        sixteenOutputs();
        anyIntIsAnOutput();
        expectedOfNoneSuch();
        noParentThatClones();
        expectedOutputThatIsNone();
        sixteenExpected();
        runAloneToItsLastFuel();
        toWaitDoesNothing();
        tablesOfTheOutermostHosts();
        theChildsPairsThere();
        afterFifteen();
        pairsAfterFifteen();
        clonedElsewhereWithPairs();
        othersAreLaunchedThen();
        launchedThoughLost();
        C.finish();
    }

    private static void outputsOfNoSuchAgent() {
        Rows.hold(C, "outputs: NONE when there is no such agent", Rows.after(SAYS,
            "step 0 20",
            "seal 0",
            "outputs -1: -1",
            "outputs 8: -1",
            "outputs 0: 2",
            "outputs 4: 1",
            "outputs 1: 0",
            "outputs 7: 0",
            "outputs MIN: -1",
            "outputs MAX: -1"));
        Rows.hold(C, "outputs: 0 when none is released", Rows.after(SAYS,
            "outputs 0: 0",
            "step 0 2",
            "outputs 0: 0",
            "seal 0",
            "outputs 0: 1"));
    }

    private static void outputThatIsNone() {
        Rows.hold(C, "output: 2^40 when there is none", Rows.after(SAYS,
            "output 0 0: 2^40",
            "step 0 20",
            "output 0 0: 2^40",
            "seal 0",
            "output 0 -1: 2^40",
            "output 0 0: 7",
            "output 0 1: 8",
            "output 0 2: 2^40",
            "output 0 15: 2^40",
            "output 0 16: 2^40",
            "output 0 32: 2^40",
            "output 0 MIN: 2^40",
            "output 0 MAX: 2^40",
            "output 4 0: 1",
            "output 4 1: 2^40",
            "output 4 -1: 2^40",
            "output 3 16: 2^40",
            "output -1 0: 2^40",
            "output -1 16: 2^40",
            "output 8 0: 2^40",
            "output MIN 0: 2^40",
            "output MAX 0: 2^40",
            "output 7 0: 2^40"));
    }

    private static void sixteenOutputs() {
        for (int agents = 1; agents <= 2; agents++) {
            List<String> rows = new ArrayList<>(List.of("load 0 push -3 pick 0 say push 1 add jump 2",
                "times " + agents + " launch 0 0 90", "times 3 step 0 40", "agent 0 0 3: 16", "slot 0 0: 4", "seal 0",
                "outputs 0: 16"));
            for (int i = 0; i < 16; i++) {
                rows.add("output 0 " + i + ": " + (i - 3));
            }
            rows.add("output 0 16: 2^40");
            rows.add("output 1 0: " + (agents == 2 ? "-3" : "2^40"));
            rows.add("output 1 -1: 2^40");
            Rows.hold(C, "output: sixteen, and no more", rows);
        }
    }

    private static void anyIntIsAnOutput() {
        Rows.hold(C, "output: the least and the greatest int, 0 and -1",
            "load 0 table 0 say table 1 say table 2 say table 3 say",
            "table 0 0 MIN",
            "table 0 1 MAX",
            "table 0 2 0",
            "table 0 3 -1",
            "launch 0 0 50",
            "step 0 8",
            "seal 0",
            "output 0 0: -2147483648",
            "output 0 1: 2147483647",
            "output 0 2: 0",
            "output 0 3: -1",
            "expectedOutput 0 0: -2147483648",
            "expectedOutput 0 1: 2147483647",
            "expectedOutput 0 2: 0",
            "expectedOutput 0 3: -1");
    }

    private static void expectedOfNoneSuch() {
        Rows.hold(C, "expected: NONE when it was not launched",
            "expected 0: -1",
            "expected 3: -1",
            "expected 4: -1",
            "expected 7: -1",
            "launch 0 0 50: 0",
            "expected 0: 0",
            "expected 1: -1",
            "expected 3: -1",
            "expected 4: -1",
            "expected -1: -1",
            "expected 8: -1",
            "expected MIN: -1",
            "expected MAX: -1",
            "times 3 launch 0 0 50",
            "expected 3: 0",
            "expected 7: -1");
        Rows.hold(C, "expected: a launch that was refused was none",
            "crash 0",
            "! launch 0 0 50: IllegalStateException",
            "expected 0: -1",
            "! launch 1 0 0: IllegalArgumentException",
            "expected 0: -1");
    }

    private static void noParentThatClones() {
        Rows.hold(C, "expected: NONE when it has no parent that clones there",
            "load 0 push 9 clone say",
            "load 1 push 0 clone say",
            "load 2 push 9 end clone",
            "load 3 push 1 clone say",
            "launch 0 0 11: 0",
            "launch 0 1 50: 1",
            "launch 0 2 50: 2",
            "launch 0 3 3: 3",
            "expected 4: 1",
            "expected 5: -1",
            "expected 6: -1",
            "expected 7: 1",
            "expected 0: 0",
            "expected 1: 1",
            "expectedOutput 1 0: -1",
            "expected 3: 0");
        Rows.hold(C, "expected: all four children",
            "load 0 push 9 clone say",
            "times 4 launch 2 0 50",
            "expected 4: 1",
            "expected 5: 1",
            "expected 6: 1",
            "expected 7: 1",
            "expected 8: -1",
            "expectedOutput 3 0: 0",
            "expectedOutput 7 0: 1",
            "expectedOutput 8 0: 2^40");
        Rows.hold(C, "expected: one fuel too few to clone, and just enough",
            "load 0 push 40 clone",
            "launch 0 0 41",
            "launch 0 0 42",
            "expected 4: -1",
            "expected 5: 0",
            "step 0 2",
            "slot 0 4: 0",
            "slot 0 5: 1");
    }

    private static void expectedOutputThatIsNone() {
        Rows.hold(C, "expectedOutput: 2^40 when there is none", Rows.after(SAYS,
            "expectedOutput 0 -1: 2^40",
            "expectedOutput 0 0: 7",
            "expectedOutput 0 1: 8",
            "expectedOutput 0 2: 2^40",
            "expectedOutput 0 15: 2^40",
            "expectedOutput 0 16: 2^40",
            "expectedOutput 0 32: 2^40",
            "expectedOutput 0 MIN: 2^40",
            "expectedOutput 0 MAX: 2^40",
            "expectedOutput 4 0: 1",
            "expectedOutput 4 1: 2^40",
            "expectedOutput 3 16: 2^40",
            "expectedOutput 1 0: 2^40",
            "expectedOutput -1 0: 2^40",
            "expectedOutput -1 16: 2^40",
            "expectedOutput 8 0: 2^40",
            "expectedOutput MIN 0: 2^40",
            "expectedOutput MAX 0: 2^40"));
        Rows.hold(C, "expectedOutput: nothing was launched", "expectedOutput 0 0: 2^40", "expectedOutput 4 0: 2^40");
    }

    private static void sixteenExpected() {
        List<String> rows = new ArrayList<>(List.of("load 0 push -3 pick 0 say push 1 add jump 2", "launch 0 0 200",
            "launch 1 0 18", "expected 0: 16", "expected 1: 4"));
        for (int i = 0; i < 16; i++) {
            rows.add("expectedOutput 0 " + i + ": " + (i - 3));
        }
        rows.add("expectedOutput 0 16: 2^40");
        rows.add("expectedOutput 1 3: 0");
        rows.add("expectedOutput 1 4: 2^40");
        Rows.hold(C, "expected: sixteen, and no more", rows);
    }

    /** It says one thing with every fifth instruction after the first, till its fuel ends. */
    private static void runAloneToItsLastFuel() {
        for (int fuel = 1; fuel <= 14; fuel++) {
            int says = (fuel + 2) / 5;
            Rows.hold(C, "the failure-free run takes all its fuel, and no more",
                "load 0 push -3 pick 0 say push 1 add jump 2",
                "launch 0 0 " + fuel,
                "expected 0: " + says,
                "step 0 40: " + fuel,
                "agent 0 0 3: " + says);
        }
        Rows.hold(C, "the two hundredth instruction, by which it says something",
            "load 0 push 49 push 1 sub pick 0 jumpif 2 jump 11 pick 0 say",
            "launch 0 0 199",
            "launch 0 0 200",
            "expected 0: 0",
            "expected 1: 1",
            "times 5 step 0 40",
            "agent 0 0 3: 0",
            "agent 0 1 3: 1",
            "agent 0 1 2: 0");
        Rows.hold(C, "the last fuel of a child",
            "load 0 push 2 clone drop push 5 say",
            "load 1 push 3 clone drop push 5 say",
            "launch 0 0 50",
            "launch 0 1 50",
            "expected 4: 0",
            "expected 5: 1");
    }

    private static void toWaitDoesNothing() {
        Rows.hold(C, "to wait does nothing there, but 21 and -1 fail there, too",
            "load 0 push 20 wait push 5 say push 21 wait push 6 say",
            "load 1 push 0 wait push 5 say push -1 wait push 6 say",
            "load 2 push 20 wait push 20 wait push 5 say",
            "launch 0 0 90",
            "launch 0 1 90",
            "launch 0 2 6",
            "expected 0: 1",
            "expected 1: 1",
            "expected 2: 1");
    }

    private static void tablesOfTheOutermostHosts() {
        Rows.hold(C, "to go makes it look at the other host's table, from host 0 to host 3; to host 4 it fails",
            "table 0 0 10",
            "table 0 7 17",
            "table 3 0 30",
            "table 3 7 37",
            "load 0 table 0 say push 3 go table 7 say push 0 go table 7 say push 4 go push 1 say",
            "load 1 table 0 say push 3 go table 7 say push -1 go push 1 say",
            "launch 0 0 90",
            "launch 3 1 90",
            "expected 0: 3",
            "expectedOutput 0 0: 10",
            "expectedOutput 0 1: 37",
            "expectedOutput 0 2: 17",
            "expected 1: 2",
            "expectedOutput 1 0: 30",
            "expectedOutput 1 1: 37");
        Rows.hold(C, "its child is run likewise from there: at host 3, though it was launched at host 0 and went on to host 1",
            "table 0 0 10",
            "table 1 0 11",
            "table 3 0 13",
            "load 0 push 3 go push 20 clone jumpif 11 push 1 go table 0 say",
            "launch 0 0 90",
            "expectedOutput 0 0: 11",
            "expectedOutput 4 0: 13");
    }

    private static void theChildsPairsThere() {
        Rows.hold(C, "its child is run likewise from there: with its pairs, and the pairs it makes then",
            "load 0 push 4 push 5 pair push 50 clone drop push 6 pick 1 pair pick 0 second first say first say second say",
            "launch 0 0 200",
            "expected 0: 3",
            "expectedOutput 0 0: 4",
            "expectedOutput 0 1: 6",
            "expectedOutput 0 2: 5",
            "expected 4: 3",
            "expectedOutput 4 0: 4",
            "expectedOutput 4 1: 6",
            "expectedOutput 4 2: 5",
            "step 0 40",
            "seal 0",
            "outputs 4: 3",
            "output 4 0: 4",
            "output 4 1: 6",
            "output 4 2: 5");
        Rows.hold(C, "the parent goes on with its own pairs: what the child's become is not seen",
            "load 0 push 4 push 5 pair push 50 clone jumpif 14 push 1 jumpif 19 pick 0 push 9 setfirst first say",
            "launch 0 0 200",
            "expected 0: 1",
            "expectedOutput 0 0: 4",
            "expected 4: 1",
            "expectedOutput 4 0: 9");
    }

    /** Fifteen are said, and then it ends, goes on elsewhere or clones: as it would with fewer. */
    private static void afterFifteen() {
        String fifteen = "push 15 pick 0 say push 1 sub pick 0 jumpif 2 drop ";
        Rows.hold(C, "an agent that has said 15 outputs ends, clones and goes like others",
            "load 0 " + fifteen + "end push 9 say",
            "load 1 " + fifteen + "push 9 clone drop push 1 go table 0 say",
            "load 2 " + fifteen + "add push 9 say",
            "table 1 0 77",
            "launch 0 0 200",
            "launch 0 1 200",
            "launch 0 2 200",
            "expected 0: 15",
            "expectedOutput 0 14: 1",
            "expectedOutput 0 15: 2^40",
            "expected 1: 16",
            "expectedOutput 1 15: 77",
            "expected 5: 1",
            "expectedOutput 5 0: 77",
            "expected 2: 15",
            "times 5 step 0 40",
            "slot 0 0: 3",
            "slot 0 1: 2",
            "slot 0 5: 2",
            "slot 0 2: 4",
            "seal 0",
            "outputs 0: 15",
            "tick 0: 2",
            "message 0 14: 15",
            "message 1 14: 0",
            "net 0 0: 1",
            "agent 1 1 3: 15",
            "step 1 2: 2",
            "seal 1",
            "outputs 1: 16",
            "output 1 15: 77");
    }

    private static void pairsAfterFifteen() {
        String fifteen = "push 15 pick 0 say push 1 sub pick 0 jumpif 2 drop ";
        Rows.hold(C, "an agent that has said 15 outputs has pairs like others, at another host, too",
            "load 0 " + fifteen + "push 1 push 2 pair push 3 push 4 pair pair second second say",
            "load 1 " + fifteen + "push 1 push 2 pair pick 0 push 9 setfirst first say",
            "load 2 " + fifteen + "push 1 push 2 pair push 3 push 4 pair pair push 2 go second second say",
            "load 3 " + fifteen + "push 1 push 2 pair push 3 push 4 pair pair push 2 go first first say",
            "launch 0 0 200",
            "launch 0 1 200",
            "launch 0 2 200",
            "launch 0 3 200",
            "expectedOutput 0 15: 4",
            "expectedOutput 1 15: 9",
            "expectedOutput 2 15: 4",
            "expectedOutput 3 15: 1",
            "times 5 step 0 40",
            "send 0",
            "net 0 0: 1",
            "net 0 0: 0",
            "agent 2 2 6: 3",
            "step 2 9",
            "seal 2",
            "output 0 15: 4",
            "output 1 15: 9",
            "output 2 15: 4",
            "output 3 15: 1");
        Rows.hold(C, "its child is run likewise from there, after 15 outputs and a hop",
            "load 0 " + fifteen + "push 3 go push 9 clone drop table 0 say",
            "table 3 0 33",
            "launch 0 0 200",
            "expected 0: 16",
            "expectedOutput 0 15: 33",
            "expected 4: 1",
            "expectedOutput 4 0: 33");
    }

    private static void clonedElsewhereWithPairs() {
        for (int pairs = 0; pairs <= 8; pairs++) {
            StringBuilder program = new StringBuilder("load 0 push 0 ");
            for (int i = 0; i < pairs; i++) {
                program.append("push 1 pair ");
            }
            Rows.hold(C, "its child is run likewise from there, which is not where it was launched: " + pairs + " pairs",
                program + "push 3 go push 9 clone drop table 0 say end push 1 say",
                "table 0 0 11",
                "table 3 0 33",
                "launch 0 0 200",
                "expected 0: 1",
                "expectedOutput 0 0: 33",
                "expected 4: 1",
                "expectedOutput 4 0: 33");
        }
    }

    private static void othersAreLaunchedThen() {
        Rows.hold(C, "a failure-free run is that of its agent, whatever is launched then",
            "load 0 push 50 clone drop push 7 say end push 8 say",
            "load 1 push 3 say end",
            "launch 0 0 200",
            "expected 0: 1",
            "expected 4: 1",
            "launch 0 1 200",
            "launch 1 0 200",
            "launch 2 1 200",
            "expected 0: 1",
            "expectedOutput 0 0: 7",
            "expectedOutput 0 1: 2^40",
            "expected 4: 1",
            "expectedOutput 4 0: 7",
            "expectedOutput 4 1: 2^40",
            "expected 1: 1",
            "expectedOutput 1 0: 3",
            "expected 5: -1",
            "expectedOutput 5 0: 2^40",
            "expected 6: 1",
            "expected 7: -1");
    }

    private static void launchedThoughLost() {
        Rows.hold(C, "the failure-free run of an agent that was launched, though it was lost", Rows.after(SAYS,
            "restart 0",
            "slot 0 0: 0",
            "expected 0: 2",
            "expected 4: 1",
            "outputs 0: 0",
            "outputs 4: 0"));
    }
}
