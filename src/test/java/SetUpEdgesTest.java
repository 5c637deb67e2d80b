import java.util.ArrayList;
import java.util.List;

/** The boundary cases of promises 2, 3 and 4: program, table and launch. */
public final class SetUpEdgesTest {
    private static final Check C = new Check("SetUpEdgesTest");

    public static void main(String[] args) {
        noSuchProgram();
        nIsOneToEight();
        theLowestNBytes();
        notMoreThanFortyEight();
        theFortyEighthByteIsThere();
        noProgramAfterALaunch();
        noSuchHostOrEntry();
        anyIntIsAnEntry();
        noTableAfterALaunch();
        launchAtNoSuchHost();
        launchOfNoSuchProgram();
        fuelIsOneToTwoHundred();
        launchAtAHostThatIsDown();
        thereWereFour();
        whichExceptionOfALaunch();
        C.finish();
    }

    private static void noSuchProgram() {
        Rows.hold(C, "NONE when there is no such program",
            "! program -1 1 1: -1",
            "program 0 0x0105 2: 2",
            "program 3 0x0106 2: 2",
            "! program 4 1 1: -1",
            "! program MIN 1 8: -1",
            "! program MAX 1 8: -1",
            "program 0 8 1: 3",
            "program 3 8 1: 3");
    }

    private static void nIsOneToEight() {
        Rows.hold(C, "NONE when n is not 1 .. 8",
            "! program 2 0x0105 0: -1",
            "! program 2 0x0105 -1: -1",
            "! program 2 0x0105 9: -1",
            "program 2 20 1: 1",
            "! program 2 0x0105 0: -1",
            "program 2 0 8: 9",
            "! program 2 0x0105 9: -1",
            "! program 2 0x0105 16: -1",
            "! program 2 0x0105 MIN: -1",
            "! program 2 0x0105 MAX: -1",
            "program 2 0 1: 10");
    }

    /** Bytes beyond the lowest n are instructions that would fail, if they were appended. */
    private static void theLowestNBytes() {
        for (int n = 1; n <= 8; n++) {
            long bytes = 0xFFFF_FFFF_FFFF_FFFFL;
            // as many pushes as fit, and an end if a byte is left
            for (int i = 0; i < n / 2; i++) {
                bytes = bytes << 16 | Kit.PUSH << 8 | i + 3;
            }
            bytes = n % 2 == 1 ? bytes << 8 | Kit.END : bytes;
            Rows.hold(C, "the lowest n bytes of bytes, the highest of them first, n = " + n,
                "program 0 " + bytes + " " + n + ": " + n,
                "program 0 0 1: " + (n + 1),
                "launch 0 0 200: 0",
                "step 0 40: " + (n / 2 + 1),
                "slot 0 0: 3",
                "agent 0 0 5: " + n / 2,
                "agent 0 0 0: " + (n / 2 * 2 + 1));
        }
        Rows.hold(C, "all eight bytes of a long below 0",
            "program 1 0x8000000000000000 8: 8",
            "launch 0 1 9: 0",
            "step 0 9: 1",
            "slot 0 0: 4");
        Rows.hold(C, "all eight bytes, each in its place",
            "program 1 0x0141080142080143 8: 8",
            "program 1 0xFFFFFFFFFFFFFF08 1: 9",
            "launch 0 1 9: 0",
            "expected 0: 3",
            "expectedOutput 0 0: 65",
            "expectedOutput 0 1: 66",
            "expectedOutput 0 2: 67");
    }

    private static void notMoreThanFortyEight() {
        for (int n = 1; n <= 8; n++) {
            List<String> rows = new ArrayList<>();
            int have = 0;
            while (have < 49 - n) {
                int next = Math.min(8, 49 - n - have);
                have += next;
                rows.add("program 1 0 " + next + ": " + have);
            }
            rows.add("! program 1 0x0A00 " + n + ": -1");
            rows.add(n > 1 ? "program 1 0 " + (n - 1) + ": 48" : "program 0 0 1: 1");
            rows.add("! program 1 0 1: -1");
            rows.add("! program 1 0 8: -1");
            rows.add("program 2 0 8: 8");
            Rows.hold(C, "NONE when there would be more than 48, from " + (49 - n) + " and " + n, rows);
            exactlyFortyEight(n);
        }
    }

    private static void exactlyFortyEight(int n) {
        List<String> rows = new ArrayList<>();
        for (int have = 0; have < 48 - n;) {
            int next = Math.min(8, 48 - n - have);
            have += next;
            rows.add("program 3 0 " + next + ": " + have);
        }
        rows.add("program 3 0 " + n + ": 48");
        rows.add("! program 3 0 " + n + ": -1");
        Rows.hold(C, "48 bytes are not more than 48, the last " + n + " at once", rows);
    }

    private static void theFortyEighthByteIsThere() {
        Rows.hold(C, "rows of at most 48 bytes: the 48th is one of them",
            "load 0 jump 45",
            "times 43 program 0 20 1",
            "load 0 push 6 say",
            "! program 0 0 1: -1",
            "launch 0 0 50: 0",
            "expected 0: 1",
            "step 0 3: 3",
            "agent 0 0 0: 48",
            "agent 0 0 3: 1",
            "slot 0 0: 1",
            "step 0 1: 1",
            "slot 0 0: 4",
            "agent 0 0 0: 48");
    }

    private static void noProgramAfterALaunch() {
        Rows.hold(C, "NONE when an agent was launched",
            "program 0 20 1: 1",
            "! launch 0 0 0: IllegalArgumentException",
            "! launch 4 0 1: IllegalArgumentException",
            "program 0 20 1: 2",
            "crash 1: true",
            "! launch 1 0 1: IllegalStateException",
            "program 0 20 1: 3",
            "launch 0 0 1: 0",
            "! program 0 0 1: -1",
            "! program 3 0 8: -1",
            "! program 4 0 1: -1",
            "restart 0",
            "slot 0 0: 0",
            "! program 0 0 1: -1",
            "! program 2 0 1: -1");
    }

    private static void noSuchHostOrEntry() {
        Rows.hold(C, "false when there is no such host or entry",
            "load 0 table 0 say table 7 say",
            "! table -1 0 5: false",
            "! table 4 0 5: false",
            "! table 0 -1 5: false",
            "! table 0 8 5: false",
            "! table 3 -1 5: false",
            "! table 3 8 5: false",
            "table 0 0 1: true",
            "table 0 7 2: true",
            "table 3 0 3: true",
            "table 3 7 4: true",
            "! table -1 7 5: false",
            "! table 4 7 5: false",
            "! table MIN 0 5: false",
            "! table MAX 0 5: false",
            "! table 0 MIN 5: false",
            "! table 0 MAX 5: false",
            "launch 0 0 9: 0",
            "launch 3 0 9: 1",
            "launch 1 0 9: 2",
            "expectedOutput 0 0: 1",
            "expectedOutput 0 1: 2",
            "expectedOutput 1 0: 3",
            "expectedOutput 1 1: 4",
            "expectedOutput 2 0: 0",
            "expectedOutput 2 1: 0");
    }

    private static void anyIntIsAnEntry() {
        Rows.hold(C, "entry k of host h's table becomes v",
            "load 0 table 0 say table 1 say table 2 say table 3 say",
            "table 2 0 MIN: true",
            "table 2 1 MAX: true",
            "table 2 2 -1: true",
            "table 2 3 7: true",
            "table 2 3 0: true",
            "launch 2 0 99: 0",
            "expectedOutput 0 0: -2147483648",
            "expectedOutput 0 1: 2147483647",
            "expectedOutput 0 2: -1",
            "expectedOutput 0 3: 0",
            "step 2 8: 8",
            "seal 2",
            "output 0 0: -2147483648",
            "output 0 1: 2147483647",
            "output 0 2: -1",
            "output 0 3: 0");
        Rows.hold(C, "a host that is down has its table",
            "load 0 table 4 say",
            "crash 2",
            "table 2 4 8: true",
            "start 2",
            "launch 2 0 9: 0",
            "step 2 2: 2",
            "seal 2",
            "output 0 0: 8");
    }

    private static void noTableAfterALaunch() {
        Rows.hold(C, "false when an agent was launched",
            "load 0 table 0 say",
            "table 0 0 1: true",
            "! launch 0 0 201: IllegalArgumentException",
            "table 0 0 2: true",
            "launch 0 0 9: 0",
            "! table 0 0 3: false",
            "! table 3 7 3: false",
            "! table 4 0 3: false",
            "restart 0",
            "! table 0 0 3: false",
            "launch 0 0 9: 1",
            "step 0 2: 2",
            "seal 0",
            "output 1 0: 2",
            "expectedOutput 1 0: 2");
    }

    private static void launchAtNoSuchHost() {
        Rows.hold(C, "IllegalArgumentException when there is no such host",
            "load 0 push 1 say",
            "! launch -1 0 50: IllegalArgumentException",
            "! launch 4 0 50: IllegalArgumentException",
            "! launch MIN 0 50: IllegalArgumentException",
            "! launch MAX 0 50: IllegalArgumentException",
            "launch 0 0 50: 0",
            "! launch 4 0 50: IllegalArgumentException",
            "launch 3 0 50: 1");
    }

    private static void launchOfNoSuchProgram() {
        Rows.hold(C, "IllegalArgumentException when there is no such program",
            "load 0 push 1 say",
            "load 3 push 2 say",
            "! launch 0 -1 50: IllegalArgumentException",
            "! launch 0 4 50: IllegalArgumentException",
            "! launch 0 MIN 50: IllegalArgumentException",
            "! launch 0 MAX 50: IllegalArgumentException",
            "launch 0 0 50: 0",
            "! launch 0 -1 50: IllegalArgumentException",
            "launch 0 3 50: 1",
            "expectedOutput 0 0: 1",
            "expectedOutput 1 0: 2");
        Rows.hold(C, "a program without bytes is one of 0 .. 3",
            "launch 0 2 50: 0",
            "slot 0 0: 1",
            "expected 0: 0",
            "step 0 2: 1",
            "slot 0 0: 4",
            "agent 0 0 0: 0",
            "agent 0 0 2: 49");
    }

    private static void fuelIsOneToTwoHundred() {
        Rows.hold(C, "IllegalArgumentException when fuel is not 1 .. 200",
            "load 0 jump 0",
            "! launch 0 0 0: IllegalArgumentException",
            "! launch 0 0 -1: IllegalArgumentException",
            "! launch 0 0 201: IllegalArgumentException",
            "! launch 0 0 256: IllegalArgumentException",
            "! launch 0 0 MIN: IllegalArgumentException",
            "! launch 0 0 MAX: IllegalArgumentException",
            "launch 0 0 1: 0",
            "launch 1 0 200: 1",
            "! launch 1 0 0: IllegalArgumentException",
            "! launch 1 0 201: IllegalArgumentException",
            "agent 0 0 2: 1",
            "agent 1 1 2: 200",
            "step 0 40: 1",
            "step 0 40: 0",
            "step 1 40: 40",
            "step 1 40: 40",
            "step 1 40: 40",
            "step 1 40: 40",
            "step 1 39: 39",
            "agent 1 1 2: 1",
            "step 1 40: 1",
            "agent 1 1 2: 0",
            "step 1 40: 0",
            "slot 1 1: 1");
    }

    private static void launchAtAHostThatIsDown() {
        Rows.hold(C, "IllegalStateException when the host is down",
            "load 0 push 1 say",
            "crash 3",
            "! launch 3 0 200: IllegalStateException",
            "launch 2 0 200: 0",
            "! launch 3 0 1: IllegalStateException",
            "start 3",
            "launch 3 0 200: 1",
            "slot 3 1: 1");
    }

    private static void thereWereFour() {
        Rows.hold(C, "IllegalStateException when there were four",
            "load 0 push 1 say",
            "launch 0 0 50: 0",
            "launch 1 0 50: 1",
            "launch 2 0 50: 2",
            "launch 3 0 50: 3",
            "! launch 0 0 50: IllegalStateException",
            "! launch 3 3 200: IllegalStateException",
            "slot 0 4: 0",
            "expected 4: -1");
        Rows.hold(C, "there were four, though none is left",
            "times 4 launch 0 0 50",
            "restart 0",
            "! launch 0 0 50: IllegalStateException",
            "! launch 1 0 50: IllegalStateException");
        Rows.hold(C, "a child is not launched: there are four launches beside it",
            "load 0 push 9 clone",
            "launch 0 0 50: 0",
            "step 0 2: 2",
            "slot 0 4: 1",
            "launch 0 0 50: 1",
            "launch 0 0 50: 2",
            "launch 0 0 50: 3",
            "! launch 0 0 50: IllegalStateException");
    }

    private static void whichExceptionOfALaunch() {
        Rows.hold(C, "wrong arguments at a host that is down, and after four",
            "crash 1",
            "! launch 1 0 0: IllegalArgumentException",
            "! launch 1 4 1: IllegalArgumentException",
            "! launch 1 0 201: IllegalArgumentException",
            "times 4 launch 0 0 1",
            "! launch 1 0 1: IllegalStateException",
            "! launch 0 0 201: IllegalArgumentException",
            "! launch 0 -1 1: IllegalArgumentException",
            "! launch -1 0 1: IllegalArgumentException");
    }
}
