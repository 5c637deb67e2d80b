import java.util.ArrayList;
import java.util.List;

/** The boundary cases of an image's bytes, and of an agent that runs as its image says. */
public final class ImageEdgesTest {
    private static final Check C = new Check("ImageEdgesTest");

    public static void main(String[] args) {
        agentsAndPrograms();
        thePlaceBehindTheLastByte();
        eightyHops();
        noneAndSixteenSaid();
        clonedOrNot();
        twoBytesOfFuel();
        noValueAndFive();
        intsAtTheirEnds();
        noPairAndEight();
        numbersOfPairs();
        eachNumberOfPairs();
        eachNumberOfValues();
        partsThatAreSetElsewhere();
        theSameAgain();
        C.finish();
    }

    /** Rows that hold message k's image against these bytes. */
    private static void image(List<String> rows, int k, int... bytes) {
        rows.add("message " + k + " 5: " + bytes.length);
        for (int i = 0; i < bytes.length; i++) {
            rows.add("message " + k + " " + (10 + i) + ": " + bytes[i]);
        }
        rows.add("message " + k + " " + (10 + bytes.length) + ": -1");
    }

    private static void sent(String sentence, String[] before, int... bytes) {
        List<String> rows = new ArrayList<>(List.of(before));
        image(rows, 0, bytes);
        Rows.hold(C, sentence, rows);
    }

    private static void agentsAndPrograms() {
        Rows.hold(C, "a byte each for the agent and the program: 0 and 3, 7 and 0",
            "load 0 push 20 clone push 2 add go",
            "load 3 push 1 go",
            "launch 0 3 50",
            "launch 0 1 50",
            "launch 0 1 50",
            "launch 0 0 50",
            "step 0 5",
            "seal 0",
            "tick 0: 3",
            "message 0 10: 0",
            "message 0 11: 3",
            "message 1 10: 3",
            "message 1 11: 0",
            "message 2 10: 7",
            "message 2 11: 0",
            "net 0 0: 2",
            "net 1 0: 1",
            "slot 1 0: 1",
            "slot 3 7: 1",
            "step 1 1: 1",
            "slot 1 0: 4",
            "agent 1 0 0: 3");
    }

    private static void thePlaceBehindTheLastByte() {
        sent("a byte for the place: behind the 48th byte", new String[] {"load 0 push 3 jump 47", "times 43 program 0 20 1",
            "load 0 go", "launch 0 0 50", "step 0 3: 3", "send 0"},
            0, 0, 48, 1, 0, 0, 0, 0, 47, 0, 0);
        sent("a byte for the place: behind its going, which is not the last byte", new String[] {"load 0 jump 3 go push 2 jump 2",
            "launch 0 0 50", "step 0 4", "send 0"},
            0, 0, 3, 1, 0, 0, 0, 0, 46, 0, 0);
    }

    /** As many as the 512 calls allow: six calls a hop. */
    private static void eightyHops() {
        List<String> rows = new ArrayList<>(List.of("load 0 push 1 go push 0 go push 1 go push 0 go push 1 go push 0 go "
            + "push 1 go push 0 go push 1 go push 0 go push 1 go push 0 go jump 0", "launch 0 0 200"));
        for (int hop = 1; hop <= 80; hop++) {
            int here = (hop + 1) % 2;
            rows.add("step " + here + " 3: " + (hop > 12 && hop % 12 == 1 ? 3 : 2));
            rows.add("seal " + here);
            rows.add("tick " + here + ": " + (hop == 1 ? 1 : 2));
            rows.add("net " + (hop == 1 ? 0 : 1) + " 0: " + (hop == 1 ? 0 : 1));
            if (hop > 1 && hop < 80) {
                rows.add("net 0 1: 0");
            }
        }
        rows.add("agent 0 0 1: 80");
        rows.add("host 0 10: 80");
        rows.add("sealed 0: 8001");
        rows.add("step 0 2: 2");
        rows.add("seal 0");
        rows.add("tick 0: 3");
        rows.add("message 2 2: 81");
        rows.add("message 2 13: 81");
        rows.add("message 1 2: 80");
        Rows.hold(C, "a byte for the hops: 81", rows);
    }

    private static void noneAndSixteenSaid() {
        sent("a byte for how many it has said: none", new String[] {"load 0 push 1 go", "launch 0 0 50", "step 0 2", "send 0"},
            0, 0, 3, 1, 0, 0, 0, 0, 48, 0, 0);
        sent("a byte for how many it has said: sixteen", new String[] {"load 0 push 16 pick 0 say push 1 sub pick 0 jumpif 2 go "
            + "push 1 go", "launch 0 0 200", "times 3 step 0 40", "slot 0 0: 2", "send 0"},
            0, 0, 16, 1, 16, 0, 0, 0, 200 - 1 - 16 * 6 - 3, 0, 0);
        Rows.hold(C, "sixteen are said where it comes to: one more fails",
            "load 0 push 16 pick 0 say push 1 sub pick 0 jumpif 2 go push 1 go push 5 say",
            "launch 0 0 200",
            "times 3 step 0 40",
            "send 0",
            "net 0 0: 0",
            "agent 1 0 3: 16",
            "step 1 9: 2",
            "slot 1 0: 4",
            "agent 1 0 0: 18");
    }

    private static void clonedOrNot() {
        Rows.hold(C, "cloned (1) or not (0)",
            "load 0 push 20 clone push 1 add go",
            "load 1 push 0 clone push 2 add go",
            "launch 0 0 50",
            "launch 0 1 50",
            "step 0 5",
            "seal 0",
            "tick 0: 3",
            "message 0 16: 1",
            "message 1 16: 0",
            "message 2 16: 0",
            "message 0 15: 0",
            "message 2 15: 0");
    }

    private static void twoBytesOfFuel() {
        for (int fuel : new int[] {2, 3, 129, 130, 200}) {
            List<String> rows = new ArrayList<>(List.of("load 0 push 1 go jump 3", "launch 0 0 " + fuel, "step 0 2", "send 0"));
            image(rows, 0, 0, 0, 3, 1, 0, 0, 0, 0, fuel - 2, 0, 0);
            rows.add("net 0 0: 0");
            rows.add("agent 1 0 2: " + (fuel - 2));
            rows.add("step 1 40: " + Math.min(40, fuel - 2));
            Rows.hold(C, "two for its fuel, the higher first: " + (fuel - 2), rows);
        }
    }

    private static void noValueAndFive() {
        sent("one for how many values the stack has: none", new String[] {"load 0 push 1 go", "launch 0 0 9", "step 0 2",
            "send 0"}, 0, 0, 3, 1, 0, 0, 0, 0, 7, 0, 0);
        sent("one for how many values the stack has: five, as going takes the sixth", new String[] {
            "load 0 push 1 push 2 push 3 push 4 push 5 push 2 go", "launch 0 0 9", "step 0 7", "send 0"},
            0, 0, 13, 1, 0, 0, 0, 0, 2, 5, 0, 0, 0, 0, 1, 0, 0, 0, 0, 2, 0, 0, 0, 0, 3, 0, 0, 0, 0, 4, 0, 0, 0, 0, 5, 0);
    }

    private static void intsAtTheirEnds() {
        String[] rows = {"table 0 0 MIN", "table 0 1 MAX", "table 0 2 -1", "table 0 3 16909060", "table 0 4 -2139062144",
            "load 0 table 0 table 1 table 2 table 3 table 4 push 3 go say say say say say", "launch 0 0 99", "step 0 7", "send 0"};
        sent("a value is 0 and four bytes, the highest first", rows, 0, 0, 13, 1, 0, 0, 0, 0, 92, 5,
            0, 128, 0, 0, 0, 0, 127, 255, 255, 255, 0, 255, 255, 255, 255, 0, 1, 2, 3, 4, 0, 128, 128, 128, 128, 0);
        Rows.hold(C, "and they come out of it as they went in", Rows.after(rows,
            "net 0 0: 0",
            "step 3 5: 5",
            "seal 3",
            "output 0 0: -2139062144",
            "output 0 1: 16909060",
            "output 0 2: -1",
            "output 0 3: 2147483647",
            "output 0 4: -2147483648"));
    }

    private static void noPairAndEight() {
        sent("the number of pairs that can be reached: none, though there was one", new String[] {
            "load 0 push 1 push 2 pair first push 1 go", "launch 0 0 50", "step 0 6", "send 0"},
            0, 0, 9, 1, 0, 0, 0, 0, 44, 1, 0, 0, 0, 0, 1, 0);
        // a chain of eight: each has the one before it as its first, and so numbers go down the chain
        sent("eight pairs, numbered 0 to 7", new String[] {"load 0 push 1 push 2 pair push 3 pair push 4 pair push 5 pair "
            + "push 6 pair push 7 pair push 8 pair push 9 pair push 1 go", "launch 0 0 50", "step 0 19", "send 0"},
            0, 0, 29, 1, 0, 0, 0, 0, 31, 1, 1, 0, 8,
            1, 1, 0, 0, 0, 0, 9, 1, 2, 0, 0, 0, 0, 8, 1, 3, 0, 0, 0, 0, 7, 1, 4, 0, 0, 0, 0, 6, 1, 5, 0, 0, 0, 0, 5,
            1, 6, 0, 0, 0, 0, 4, 1, 7, 0, 0, 0, 0, 3, 0, 0, 0, 0, 1, 0, 0, 0, 0, 2);
        Rows.hold(C, "the largest image: five values, eight pairs",
            "load 0 push 0 push 0 pair push 0 push 0 pair push 0 push 0 pair push 0 push 0 pair push 0 push 0 pair push 1 pair "
                + "push 1 pair push 1 pair push 1 go",
            "launch 0 0 200",
            "step 0 40: 23",
            "slot 0 0: 2",
            "send 0",
            "message 0 5: 92",
            "message 0 101: 0",
            "message 0 102: -1",
            "message 0 100: 0",
            "message 0 19: 5",
            "message 0 30: 8",
            "net 0 2: 2",
            "message 1 5: 92",
            "message 1 101: 0",
            "net 1 0: 1",
            "agent 1 0 5: 5",
            "agent 1 0 6: 8",
            "agent 1 0 14: 1");
    }

    private static void numbersOfPairs() {
        sent("a pair in itself: its own number, 0", new String[] {"load 0 push 1 push 2 pair pick 0 pick 0 setsecond push 1 go",
            "launch 0 0 50", "step 0 8", "send 0"},
            0, 0, 13, 1, 0, 0, 0, 0, 42, 1, 1, 0, 1, 0, 0, 0, 0, 1, 1, 0);
        sent("from the stack's lowest value on, then the pairs', first before second", new String[] {
            // q = (1, 2), r = (3, 4), on the stack 9 and p = (r, q)
            "load 0 push 9 push 1 push 2 pair push 3 push 4 pair pick 1 pair push 0 drop push 1 go", "launch 0 0 50", "step 0 13",
            "send 0"},
            0, 0, 21, 1, 0, 0, 0, 0, 37, 3, 0, 0, 0, 0, 9, 1, 0, 1, 1, 3,
            0, 0, 0, 0, 1, 0, 0, 0, 0, 2,
            1, 2, 1, 0,
            0, 0, 0, 0, 3, 0, 0, 0, 0, 4);
    }

    /** A chain of so many pairs goes from host 0 over host 1, where it is restarted, to host 2. */
    private static void eachNumberOfPairs() {
        for (int pairs = 0; pairs <= 8; pairs++) {
            StringBuilder chain = new StringBuilder("load 0 push 0 ");
            for (int i = 1; i <= pairs; i++) {
                chain.append("push ").append(i).append(" pair ");
            }
            int bytes = 2 + 3 * pairs;
            List<String> rows = new ArrayList<>(List.of(chain + "push 1 go push 2 go pick 0 second say end push 9 say",
                "launch 0 0 200", "expected 0: " + (pairs == 0 ? 0 : 1),
                "step 0 40: " + (1 + 2 * pairs + 2), "agent 0 0 6: " + pairs, "send 0", "message 0 12: " + (bytes + 3),
                "message 0 13: 1", "message 0 18: " + (197 - 2 * pairs), "net 0 0: 0", "agent 1 0 0: " + (bytes + 3),
                "agent 1 0 1: 1", "agent 1 0 5: 1", "agent 1 0 6: " + pairs, "seal 1", "step 1 2: 2", "restart 1", "agent 1 0 1: 1",
                "agent 1 0 6: " + pairs, "step 1 2: 2", "net 0 1: 0", "seal 1", "net 0 1: 0", "tick 1: 1", "message 0 1: 0",
                "message 0 11: 0", "message 0 12: " + (bytes + 6), "message 0 13: 2", "message 0 16: 0", "message 0 17: 0",
                "message 0 18: " + (195 - 2 * pairs), "message 0 19: 1"));
            rows.add("message 0 " + (pairs == 0 ? 25 : 22) + ": " + pairs);
            // each pair but the innermost: its first is the next pair, its second the int it was made with
            for (int i = 0; i < pairs; i++) {
                int at = 23 + 7 * i;
                rows.add("message 0 " + at + ": " + (i < pairs - 1 ? 1 : 0));
                rows.add("message 0 " + (at + 1) + ": " + (i < pairs - 1 ? i + 1 : 0));
                rows.add("message 0 " + (at + (i < pairs - 1 ? 6 : 9)) + ": " + (pairs - i));
            }
            rows.addAll(List.of("net 0 0: 0", "step 2 3: " + (pairs == 0 ? 2 : 3), "slot 2 0: " + (pairs == 0 ? 4 : 1), "seal 2"));
            rows.add("output 0 0: " + (pairs == 0 ? "2^40" : "" + pairs));
            Rows.hold(C, "then the number of pairs that can be reached, and their firsts and seconds: " + pairs, rows);
        }
    }

    private static void eachNumberOfValues() {
        for (int values = 0; values <= 5; values++) {
            StringBuilder pushes = new StringBuilder("load 0 ");
            for (int i = 0; i < values; i++) {
                pushes.append("push ").append(i + 40).append(' ');
            }
            List<String> rows = new ArrayList<>(List.of(pushes + "push 1 clone go", "launch 0 0 200", "step 0 40: " + (values + 5),
                "slot 0 4: 2", "slot 0 0: 4", "seal 0", "tick 0: 1"));
            int[] image = new int[11 + 5 * values];
            System.arraycopy(new int[] {4, 0, 2 * values + 4, 1, 0, 0, 0, 0, 0, values}, 0, image, 0, 10);
            for (int i = 0; i < values; i++) {
                image[14 + 5 * i] = i + 40;
            }
            image(rows, 0, image);
            rows.addAll(List.of("net 0 0: 0", "slot 1 4: 1", "agent 1 4 5: " + values, "agent 1 4 2: 0", "step 1 1: 0"));
            Rows.hold(C, "how many values the stack has, and these: a child with its last fuel, which has not cloned: " + values, rows);
        }
    }

    /** Parts that are set at another host than where the pair was made, by a parent and by its child. */
    private static void partsThatAreSetElsewhere() {
        for (String who : new String[] {"0", "4"}) {
            Rows.hold(C, "pairs go from host to host with the agent, and are set there: agent " + who,
                "load 0 push 1 push 2 pair push 80 clone push 3 sub push -1 mul go pick 0 push 7 setfirst pick 0 push 8 "
                    + "setsecond pick 0 first say pick 0 second say",
                "launch 0 0 200",
                "step 0 40",
                "slot 0 0: 2",
                "slot 0 4: 2",
                "seal 0",
                "tick 0: 2",
                "message 0 4: 3",
                "message 1 4: 2",
                "net 0 0: 1",
                "net 0 0: 0",
                "step 3 12: 12",
                "step 2 12: 12",
                "seal 3",
                "seal 2",
                "outputs " + who + ": 2",
                "output " + who + " 0: 7",
                "output " + who + " 1: 8",
                "expectedOutput " + who + " 0: 7",
                "expectedOutput " + who + " 1: 8");
        }
    }

    private static void theSameAgain() {
        Rows.hold(C, "an image that was delivered and goes on is the same but for place, hops and fuel",
            "load 0 push -7 push 1 push 2 pair pick 0 pick 0 setfirst push 1 go push 2 go",
            "launch 0 0 200",
            "step 0 9: 9",
            "send 0",
            "message 0 5: 25",
            "net 0 0: 0",
            "step 1 2: 2",
            "send 1",
            "message 1 5: 25",
            "message 1 12: 18",
            "message 1 13: 2",
            "message 1 18: 189",
            "message 1 19: 2",
            "message 1 20: 0",
            "message 1 21: 255",
            "message 1 24: 249",
            "message 1 25: 1",
            "message 1 26: 0",
            "message 1 27: 1",
            "message 1 28: 1",
            "message 1 29: 0",
            "message 1 30: 0",
            "message 1 34: 2",
            "message 1 35: -1");
    }
}
