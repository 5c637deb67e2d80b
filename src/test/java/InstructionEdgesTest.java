/** The boundary cases of the instructions: the last that is done, the first that fails. */
public final class InstructionEdgesTest {
    private static final Check C = new Check("InstructionEdgesTest");

    public static void main(String[] args) {
        noSuchInstruction();
        bytesNotAllInTheProgram();
        signedByte();
        sumsWrap();
        differencesWrap();
        productsWrap();
        wrappedIntsAreInts();
        belowTheTopmost();
        entries();
        sixteenOutputs();
        hostsToGoTo();
        jumps();
        jumpsIfNotZero();
        ticksToWait();
        atMostSixValues();
        sixValuesAndMore();
        missingValues();
        wrongKinds();
        atMostEightPairs();
        pairsThatAreReached();
        pairsInThemselves();
        whichPairIsTaken();
        theSameOrNot();
        nothingOfTheInstructionIsDone();
        C.finish();
    }

    /** The bytes are done, the last of so many instructions too. */
    private static void done(String sentence, String bytes, int instructions, String... rows) {
        String[] begin = {"load 0 " + bytes, "launch 0 0 200", "step 0 " + instructions + ": " + instructions,
            "agent 0 0 2: " + (200 - instructions)};
        Rows.hold(C, sentence + " (" + bytes + ")", Rows.after(begin, rows));
    }

    /** The last of so many instructions fails, and in the failure-free run, too. */
    private static void fails(String sentence, String bytes, int instructions, int place, int values) {
        failsAtTheEnd(sentence, bytes, instructions, place, values);
        Rows.hold(C, sentence + " (" + bytes + "), nothing is said behind it",
            "load 0 " + bytes + " drop drop push 1 say",
            "load 1 " + bytes + " push 1 say",
            "launch 0 0 200",
            "launch 0 1 200",
            "expected 0: 0",
            "expected 1: 0",
            "step 0 40",
            "slot 0 0: 4",
            "slot 0 1: 4",
            "agent 0 0 0: " + place,
            "agent 0 1 0: " + place);
    }

    /** The last of so many instructions fails: its fuel is taken, place and stack are as before it. */
    private static void failsAtTheEnd(String sentence, String bytes, int instructions, int place, int values) {
        String before = instructions > 1 ? "step 0 " + (instructions - 1) + ": " + (instructions - 1) : "slot 0 0: 1";
        Rows.hold(C, sentence + " (" + bytes + ")",
            "load 0 " + bytes,
            "launch 0 0 200",
            before,
            "slot 0 0: 1",
            "agent 0 0 0: " + place,
            "agent 0 0 5: " + values,
            "step 0 40: 1",
            "slot 0 0: 4",
            "agent 0 0 0: " + place,
            "agent 0 0 1: 0",
            "agent 0 0 2: " + (200 - instructions),
            "agent 0 0 4: 0",
            "agent 0 0 5: " + values,
            "step 0 40: 0",
            "tick 0: 0",
            "agent 0 0 2: " + (200 - instructions));
    }

    private static void says(String sentence, String bytes, String... outputs) {
        String[] rows = {"load 0 " + bytes, "table 0 0 MIN", "table 0 1 MAX", "table 0 7 77", "launch 0 0 200",
            "times 5 step 0 40", "seal 0", "outputs 0: " + outputs.length, "expected 0: " + outputs.length};
        for (int i = 0; i < outputs.length; i++) {
            rows = Rows.after(rows, "output 0 " + i + ": " + outputs[i], "expectedOutput 0 " + i + ": " + outputs[i]);
        }
        Rows.hold(C, sentence + " (" + bytes + ")", rows);
    }

    private static void noSuchInstruction() {
        done("0 is an instruction", "0", 1, "slot 0 0: 3", "agent 0 0 0: 1");
        done("19 is an instruction", "push 1 push 1 19", 3, "slot 0 0: 1", "agent 0 0 5: 1");
        for (int code : new int[] {20, 21, 32, 127, 128, 147, 236, 254, 255}) {
            fails("there is no such instruction", "push 1 push 1 " + code, 3, 4, 2);
            fails("there is no such instruction", code + " 0 0", 1, 0, 0);
        }
    }

    private static void bytesNotAllInTheProgram() {
        for (String code : new String[] {"push", "pick", "table", "jump", "jumpif"}) {
            done("all its bytes are in the program", "push 0 " + code + " 0", 2, "slot 0 0: 1");
            failsAtTheEnd("its second byte is not in the program", "push 0 " + code, 2, 2, 1);
        }
        for (String code : new String[] {"push 1 drop", "push 1 say", "push 0 go", "push 0 clone", "push 0 wait"}) {
            done("one byte is all it has", code, 2, "slot 0 0: 1", "agent 0 0 0: 3");
        }
        failsAtTheEnd("nothing is behind the last byte", "push 1", 2, 2, 1);
        Rows.hold(C, "not even the first byte is in a program without bytes",
            "launch 0 3 9",
            "step 0 40: 1",
            "slot 0 0: 4",
            "agent 0 0 0: 0",
            "agent 0 0 2: 8");
        Rows.hold(C, "the second byte would be the 49th",
            "load 0 jump 47",
            "times 45 program 0 20 1",
            "load 0 push",
            "launch 0 0 50",
            "step 0 40: 2",
            "slot 0 0: 4",
            "agent 0 0 0: 47");
        Rows.hold(C, "the second byte is the 48th",
            "load 0 jump 46",
            "times 44 program 0 20 1",
            "load 0 push 5",
            "launch 0 0 50",
            "step 0 2: 2",
            "agent 0 0 0: 48",
            "slot 0 0: 1",
            "step 0 2: 1",
            "slot 0 0: 4");
    }

    private static void signedByte() {
        says("1 x gives x as a signed byte", "push 0 say push 1 say push 127 say push 128 say push 129 say push 255 say",
            "0", "1", "127", "-128", "-127", "-1");
    }

    private static void sumsWrap() {
        says("a + b wraps above", "table 1 push 0 add say table 1 push 1 add say table 1 table 1 add say",
            "2147483647", "-2147483648", "-2");
        says("a + b wraps below", "table 0 push 0 add say table 0 push -1 add say table 0 table 0 add say",
            "-2147483648", "2147483647", "0");
        says("a + b of both ends", "table 0 table 1 add say table 1 table 0 add say", "-1", "-1");
    }

    private static void differencesWrap() {
        says("a - b wraps below", "table 0 push 0 sub say table 0 push 1 sub say table 0 table 1 sub say",
            "-2147483648", "2147483647", "1");
        says("a - b wraps above", "table 1 push 0 sub say table 1 push -1 sub say table 1 table 0 sub say",
            "2147483647", "-2147483648", "-1");
        says("0 - b", "push 0 table 0 sub say push 0 table 1 sub say push -1 table 0 sub say",
            "-2147483648", "-2147483647", "2147483647");
    }

    private static void productsWrap() {
        says("a * b wraps", "table 1 push 2 mul say table 1 table 1 mul say table 0 push -1 mul say table 0 table 0 mul say",
            "-2", "1", "-2147483648", "0");
        says("a * b that just does not wrap", "table 0 push 1 mul say table 1 push -1 mul say table 1 push 1 mul say",
            "-2147483648", "-2147483647", "2147483647");
        says("a * b of both ends", "table 0 table 1 mul say table 0 push 2 mul say", "-2147483648", "0");
    }

    /** What wrapped is an int like any other for what takes it. */
    private static void wrappedIntsAreInts() {
        says("a + b that wrapped is the same int", "table 0 table 0 add push 0 same say table 1 push 1 add table 0 same say table 0 "
            + "push -1 add table 1 same say", "1", "1", "1");
        says("a - b that wrapped is the same int", "table 0 push 1 sub table 1 same say table 1 push -1 sub table 0 same say "
            + "table 0 table 1 sub push 1 same say table 1 table 0 sub push -1 same say", "1", "1", "1", "1");
        says("a * b that wrapped is the same int", "table 0 push -1 mul table 0 same say table 1 push 2 mul push -2 same say "
            + "table 0 push 2 mul push 0 same say table 1 table 1 mul push 1 same say", "1", "1", "1", "1");
        says("a + b that wrapped to 0 does not jump", "table 0 table 0 add jumpif 9 push 1 say", "1");
        says("a * b that wrapped to 0 does not jump", "table 0 push 2 mul jumpif 9 push 1 say", "1");
        for (String one : new String[] {"table 0 table 1 sub", "table 1 table 1 mul", "table 1 push 2 add table 0 add"}) {
            Rows.hold(C, "what wrapped to 1 is 1: it goes, waits and clones (" + one + ")",
                "load 0 " + one + " go",
                "load 1 " + one + " wait",
                "load 2 " + one + " clone",
                "table 0 0 MIN",
                "table 0 1 MAX",
                "launch 0 0 50",
                "launch 0 1 50",
                "launch 0 2 50",
                "step 0 40",
                "slot 0 0: 2",
                "host 0 2: 1",
                "slot 0 1: 1",
                "agent 0 1 4: 1",
                "slot 0 6: 4",
                "agent 0 6 2: 0",
                "expected 6: 0");
        }
        Rows.hold(C, "what wrapped is four bytes in an image",
            "load 0 table 1 push 1 add table 0 push 1 sub table 1 table 1 mul push 3 go",
            "table 0 0 MIN",
            "table 0 1 MAX",
            "launch 0 0 50",
            "step 0 40: 11",
            "send 0",
            "message 0 5: 26",
            "message 0 20: 0",
            "message 0 21: 128",
            "message 0 24: 0",
            "message 0 25: 0",
            "message 0 26: 127",
            "message 0 29: 255",
            "message 0 30: 0",
            "message 0 31: 0",
            "message 0 34: 1",
            "message 0 35: 0");
    }

    private static void belowTheTopmost() {
        says("x 0: that itself", "push 4 push 5 pick 0 say say say", "5", "5", "4");
        says("the lowest of five", "push 4 push 5 push 6 push 7 push 8 pick 4 say", "4");
        done("the only one", "push 4 pick 0", 2, "agent 0 0 5: 2");
        fails("x below the topmost is below the lowest", "push 4 pick 1", 2, 2, 1);
        fails("x below the topmost is below the lowest", "push 4 push 5 push 6 push 7 push 8 pick 5", 6, 10, 5);
        fails("x 0 of an empty stack", "pick 0", 1, 0, 0);
        fails("x 255 is not -1", "push 4 push 5 pick 255", 3, 4, 2);
        fails("x 128", "push 4 push 5 pick 128", 3, 4, 2);
    }

    private static void entries() {
        says("entry x (0 .. 7)", "table 0 say table 7 say", "-2147483648", "77");
        fails("entry 8", "table 8", 1, 0, 0);
        fails("entry 127", "table 127", 1, 0, 0);
        fails("entry 128", "table 128", 1, 0, 0);
        fails("entry 255 is not -1", "table 255", 1, 0, 0);
    }

    private static void sixteenOutputs() {
        Rows.hold(C, "it has said 16 outputs and would say one more",
            "load 0 push 3 say jump 0",
            "launch 0 0 200",
            "expected 0: 16",
            "step 0 40: 40",
            "step 0 6: 6",
            "agent 0 0 3: 15",
            "step 0 1: 1",
            "agent 0 0 3: 16",
            "slot 0 0: 1",
            "step 0 2: 2",
            "slot 0 0: 1",
            "agent 0 0 5: 1",
            "agent 0 0 0: 2",
            "step 0 2: 1",
            "slot 0 0: 4",
            "agent 0 0 0: 2",
            "agent 0 0 5: 1",
            "agent 0 0 3: 16",
            "agent 0 0 2: 150",
            "seal 0",
            "outputs 0: 16",
            "output 0 15: 3",
            "output 0 16: 2^40");
        Rows.hold(C, "16 over two hosts",
            "load 0 push 3 say push 3 say push 3 say push 3 say push 3 say push 3 say push 3 say push 1 go jump 0",
            "launch 0 0 200",
            "step 0 40",
            "send 0",
            "message 0 14: 7",
            "net 0 0: 0",
            "step 1 40",
            "agent 1 0 3: 16",
            "slot 1 0: 4",
            "seal 1",
            "outputs 0: 16",
            "expected 0: 16");
        Rows.hold(C, "a child has said none: it may say 16",
            "load 0 push 3 say push 3 say push 100 clone drop jump 3",
            "launch 0 0 200",
            "expected 0: 16",
            "expected 4: 16");
    }

    private static void hostsToGoTo() {
        done("host 0, from where it is", "push 0 go", 2, "slot 0 0: 1", "agent 0 0 1: 0", "host 0 2: -1", "agent 0 0 0: 3",
            "agent 0 0 5: 0", "seal 0", "tick 0: 0");
        done("host 3", "push 3 go", 2, "slot 0 0: 2", "agent 0 0 1: 1", "host 0 2: 3", "agent 0 0 0: 3", "agent 0 0 5: 0");
        fails("host 4", "push 4 go", 2, 2, 1);
        fails("host -1", "push -1 go", 2, 2, 1);
        fails("host 127", "push 127 go", 2, 2, 1);
        fails("host -128", "push -128 go", 2, 2, 1);
        Rows.hold(C, "host 0 from host 3, and hosts far off",
            "load 0 push 0 go",
            "load 1 push 3 go",
            "load 2 table 0 go",
            "table 2 0 MIN",
            "table 3 0 MAX",
            "launch 3 0 50",
            "launch 3 1 50",
            "launch 2 2 50",
            "launch 3 2 50",
            "step 3 2: 6",
            "step 2 2: 2",
            "slot 3 0: 2",
            "host 3 2: 0",
            "slot 3 1: 1",
            "host 3 3: -1",
            "slot 2 2: 4",
            "host 2 4: -1",
            "slot 3 3: 4",
            "agent 3 3 5: 1");
    }

    private static void jumps() {
        done("to place 0", "jump 0", 9, "agent 0 0 0: 0", "slot 0 0: 1");
        done("to the last byte", "jump 3 20 end", 2, "slot 0 0: 3", "agent 0 0 0: 4");
        done("behind the last byte", "jump 2", 1, "slot 0 0: 1", "agent 0 0 0: 2", "step 0 9: 1", "slot 0 0: 4",
            "agent 0 0 0: 2");
        done("to a second byte", "push end jump 1", 3, "slot 0 0: 3", "agent 0 0 0: 2");
        for (int x : new int[] {47, 48, 127, 128, 254, 255}) {
            done("out of the program", "jump " + x, 1, "slot 0 0: 1", "agent 0 0 0: " + x, "step 0 9: 1", "slot 0 0: 4",
                "agent 0 0 0: " + x, "agent 0 0 2: 198");
        }
    }

    private static void jumpsIfNotZero() {
        done("0 does not jump", "push 0 jumpif 9", 2, "agent 0 0 0: 4", "agent 0 0 5: 0");
        done("1 jumps", "push 1 jumpif 9", 2, "agent 0 0 0: 9", "agent 0 0 5: 0");
        done("-1 jumps", "push -1 jumpif 0", 2, "agent 0 0 0: 0", "agent 0 0 5: 0");
        done("far off", "push 1 jumpif 255", 2, "agent 0 0 0: 255", "step 0 2: 1", "slot 0 0: 4");
        says("the least int jumps, and so does 2^16", "table 0 jumpif 5 end push 1 say push 16 push 16 mul pick 0 mul jumpif 19 "
            + "end push 2 say", "1", "2");
        fails("nothing to take", "jumpif 0", 1, 0, 0);
    }

    private static void ticksToWait() {
        done("0 ticks", "push 0 wait", 2, "agent 0 0 4: 0", "agent 0 0 0: 3", "agent 0 0 5: 0");
        done("1 tick", "push 1 wait", 2, "agent 0 0 4: 1");
        done("20 ticks", "push 20 wait", 2, "agent 0 0 4: 20", "slot 0 0: 1");
        fails("21 ticks", "push 21 wait", 2, 2, 1);
        fails("-1 tick", "push -1 wait", 2, 2, 1);
        fails("-128 ticks", "push -128 wait", 2, 2, 1);
        Rows.hold(C, "as many ticks as an int can tell",
            "load 0 table 0 wait",
            "table 0 0 MAX",
            "table 1 0 MIN",
            "launch 0 0 9",
            "launch 1 0 9",
            "step 0 3: 2",
            "step 1 3: 2",
            "slot 0 0: 4",
            "slot 1 1: 4",
            "agent 0 0 4: 0");
    }

    private static void atMostSixValues() {
        String five = "push 0 push 0 push 0 push 0 push 0 ";
        done("a sixth is pushed", five + "push 9", 6, "agent 0 0 5: 6", "slot 0 0: 1");
        done("a sixth is picked", five + "pick 4", 6, "agent 0 0 5: 6", "slot 0 0: 1");
        done("a sixth is read", five + "table 7", 6, "agent 0 0 5: 6", "slot 0 0: 1");
        String six = five + "push 0 ";
        fails("a seventh would be pushed", six + "push 9", 7, 12, 6);
        fails("a seventh would be picked", six + "pick 5", 7, 12, 6);
        fails("a seventh would be picked, and is missing", six + "pick 6", 7, 12, 6);
        fails("a seventh would be read", six + "table 7", 7, 12, 6);
    }

    /** What takes at least as many as it gives does not have more than six. */
    private static void sixValuesAndMore() {
        String six = "push 1 push 1 push 1 push 1 push 1 push 1 ";
        for (String code : new String[] {"add", "sub", "mul", "drop", "say", "pair", "same", "jumpif 14"}) {
            done("five are left", six + code, 7, "agent 0 0 5: 5", "slot 0 0: 1");
        }
        done("six stay", six + "jump 14", 7, "agent 0 0 5: 6", "slot 0 0: 1");
        Rows.hold(C, "six stay, and of the child",
            "load 0 " + six + "clone",
            "launch 0 0 8",
            "step 0 7: 7",
            "agent 0 0 5: 6",
            "agent 0 4 5: 6",
            "slot 0 0: 1",
            "slot 0 4: 1",
            "agent 0 0 2: 0");
        done("six stay", six + "drop push 0 clone", 9, "agent 0 0 5: 6", "slot 0 0: 1", "slot 0 4: 0");
        done("it ends with six", six + "end", 7, "agent 0 0 5: 6", "slot 0 0: 3");
        done("it goes with five", six + "go", 7, "agent 0 0 5: 5", "slot 0 0: 2");
        done("it waits with five", six + "wait", 7, "agent 0 0 5: 5", "agent 0 0 4: 1");
        for (String code : new String[] {"first", "second"}) {
            done("a part for a pair", six + "pair pick 0 " + code, 9, "agent 0 0 5: 6", "agent 0 0 15: 0", "agent 0 0 14: 1");
        }
        for (String code : new String[] {"setfirst", "setsecond"}) {
            done("four are left of six", six + "pair push 3 " + code, 9, "agent 0 0 5: 4", "slot 0 0: 1");
        }
    }

    private static void missingValues() {
        for (String code : new String[] {"add", "sub", "mul", "drop", "say", "go", "clone", "wait", "pair", "first", "second",
            "setfirst", "setsecond", "same", "jumpif 0", "pick 0"}) {
            fails("a value is missing: there is none", code, 1, 0, 0);
            fails("a value is missing: it was dropped", "push 1 drop " + code, 3, 3, 0);
        }
        for (String code : new String[] {"add", "sub", "mul", "pair", "setfirst", "setsecond", "same"}) {
            fails("a value is missing: there is one", "push 1 " + code, 2, 2, 1);
            fails("a value is missing: there is one, a pair", "push 1 push 1 pair " + code, 4, 5, 1);
        }
    }

    private static void wrongKinds() {
        String pair = "push 1 push 1 pair ";
        for (String code : new String[] {"say", "go", "clone", "wait", "jumpif 0"}) {
            fails("of the wrong kind: a pair", pair + code, 4, 5, 1);
        }
        for (String code : new String[] {"add", "sub", "mul"}) {
            fails("of the wrong kind: the lower one is a pair", pair + "push 1 " + code, 5, 7, 2);
            fails("of the wrong kind: the topmost is a pair", "push 1 " + pair + code, 5, 7, 2);
            fails("of the wrong kind: both are pairs", pair + "pick 0 " + code, 5, 7, 2);
        }
        for (String code : new String[] {"first", "second"}) {
            fails("of the wrong kind: an int", "push 0 " + code, 2, 2, 1);
            fails("of the wrong kind: an int above a pair", pair + "push 0 " + code, 5, 7, 2);
        }
        for (String code : new String[] {"setfirst", "setsecond"}) {
            fails("of the wrong kind: an int and a pair", "push 0 " + pair + code, 5, 7, 2);
            fails("of the wrong kind: two ints", "push 0 push 0 " + code, 3, 4, 2);
            done("a pair and a pair", pair + "pick 0 " + code, 5, "agent 0 0 5: 0", "agent 0 0 6: 0");
        }
        done("any kind is dropped", pair + "drop", 4, "agent 0 0 5: 0", "agent 0 0 6: 0");
        done("any kind is picked", pair + "pick 0", 4, "agent 0 0 11: 1");
        done("any kinds make a pair", pair + "push 1 pair", 5, "agent 0 0 6: 2");
        done("any kinds make a pair", "push 1 " + pair + "pair", 5, "agent 0 0 6: 2");
    }

    private static void atMostEightPairs() {
        String seven = "push 0 push 0 pair push 0 pair push 0 pair push 0 pair push 0 pair push 0 pair push 0 pair ";
        String eight = seven + "push 0 pair ";
        done("an eighth pair", eight, 17, "agent 0 0 6: 8", "agent 0 0 5: 1", "slot 0 0: 1");
        fails("a ninth, of a pair and an int", eight + "push 0 pair", 19, 28, 2);
        fails("a ninth, of an int and a pair", seven + "push 0 push 0 pair push 0 pick 1 pair", 21, 32, 4);
        fails("a ninth, of two ints", eight + "push 0 push 0 pair", 20, 30, 3);
        fails("a ninth, of one pair twice", eight + "pick 0 pair", 19, 28, 2);
        done("eight on the stack and below", "push 0 push 0 pair push 0 push 0 pair push 0 push 0 pair push 0 push 0 pair "
            + "push 0 push 0 pair push 0 pair push 0 pair push 0 pair", 21, "agent 0 0 6: 8", "agent 0 0 5: 5", "slot 0 0: 1");
        Rows.hold(C, "eight pairs still, when a ninth failed",
            "load 0 " + eight + "push 0 pair",
            "launch 0 0 50",
            "step 0 40: 19",
            "slot 0 0: 4",
            "agent 0 0 6: 8",
            "agent 0 0 10: 1",
            "agent 0 0 11: 0",
            "agent 0 0 12: -1");
        Rows.hold(C, "eight pairs each: a parent and its child",
            "load 0 " + eight + "push 50 clone push 0 pair",
            "launch 0 0 200",
            "step 0 19: 19",
            "agent 0 0 6: 8",
            "agent 0 4 6: 8",
            "step 0 1: 2",
            "step 0 1: 2",
            "slot 0 0: 4",
            "slot 0 4: 4",
            "agent 0 4 6: 8");
    }

    private static void pairsThatAreReached() {
        String eight = "push 0 push 0 pair push 0 pair push 0 pair push 0 pair push 0 pair push 0 pair push 0 pair push 0 pair ";
        done("one of eight is reached no more: room for one", eight + "first push 0 pair", 20, "agent 0 0 6: 8", "slot 0 0: 1");
        fails("one of eight is reached no more: room for no second one", eight + "first push 0 pair push 0 pair", 22, 32, 2);
        done("none is reached: room for all", eight + "drop push 0 push 0 pair", 21, "agent 0 0 6: 1", "slot 0 0: 1");
        done("an int takes the place of seven", eight + "pick 0 push 1 setfirst", 20, "agent 0 0 6: 1", "agent 0 0 5: 1");
        done("a pair is reached twice, and once, and not", "push 0 push 0 pair pick 0 drop", 5, "agent 0 0 6: 1");
        done("a pair is reached twice, and once, and not", "push 0 push 0 pair pick 0 drop drop", 6, "agent 0 0 6: 0");
        for (String part : new String[] {"first", "second"}) {
            done("its parts are ints: it is not reached", "push 0 push 0 pair " + part, 4, "agent 0 0 6: 0", "agent 0 0 10: 0");
            done("one of two is reached by it", "push 0 push 0 pair pick 0 pair " + part, 6, "agent 0 0 6: 1", "agent 0 0 10: 1");
        }
        // so many values below do not matter
        String zeros = "";
        for (int below = 0; below <= 4; below++) {
            String pair = zeros + "push 0 push 0 pair ";
            done("not reached, " + below + " values below", pair + "first", below + 4, "agent 0 0 6: 0", "agent 0 0 5: " + (below + 1));
            done("not reached, " + below + " values below", pair + "drop", below + 4, "agent 0 0 6: 0", "agent 0 0 5: " + below);
            done("reached, " + below + " values below", pair, below + 3, "agent 0 0 6: 1", "agent 0 0 5: " + (below + 1));
            zeros += "push 0 ";
        }
        done("what it is compared with is not reached then", "push 0 push 0 pair pick 0 same", 5, "agent 0 0 6: 0");
    }

    private static void pairsInThemselves() {
        String ring = "push 5 push 6 pair pick 0 pick 0 setfirst ";
        done("a pair in itself is one pair", ring, 6, "agent 0 0 6: 1", "agent 0 0 5: 1");
        says("a pair in itself", ring + "first first second say", "6");
        done("a ring that nothing reaches", ring + "drop", 7, "agent 0 0 6: 0");
        done("a ring of two that nothing reaches", "push 5 push 6 pair push 7 pick 1 pair pick 1 pick 1 setfirst drop drop", 11,
            "agent 0 0 6: 0", "agent 0 0 5: 0");
        done("a ring of two, reached by one", "push 5 push 6 pair push 7 pick 1 pair pick 1 pick 1 setfirst drop", 10,
            "agent 0 0 6: 2", "agent 0 0 5: 1");
        // a ring is made, dropped and made again, till no fuel is left: never more than one pair
        done("rings make room again", ring + "drop jump 0", 40, "slot 0 0: 1", "step 0 40: 40", "step 0 40: 40", "slot 0 0: 1");
    }

    /** The one that is taken, not the first or the last that was made, has its part read or changed. */
    private static void whichPairIsTaken() {
        String three = "push 1 push 2 pair push 3 push 4 pair push 5 push 6 pair ";
        says("the first of each", three + "first say first say first say", "5", "3", "1");
        says("the second of each", three + "second say second say second say", "6", "4", "2");
        for (int x = 0; x < 3; x++) {
            String[] firsts = {"5", "3", "1"};
            String[] seconds = {"6", "4", "2"};
            firsts[x] = "9";
            says("an int becomes the first of one", three + "pick " + x + " push 9 setfirst first say first say first say", firsts);
            seconds[x] = "9";
            says("an int becomes the second of one", three + "pick " + x + " push 9 setsecond second say second say second say",
                seconds);
        }
        says("a pair becomes the first of another", three + "pick 1 pick 3 setfirst drop first second say", "2");
        says("a pair becomes the second of another", three + "pick 2 pick 1 setsecond drop drop second second say", "6");
    }

    private static void theSameOrNot() {
        says("the same int", "push 0 push 0 same say table 0 table 0 same say table 1 table 0 same say push 1 push 0 same say",
            "1", "1", "0", "0");
        says("the same pair, another one like it, an int", "push 0 push 0 pair pick 0 same say push 0 push 0 pair push 0 push 0 "
            + "pair same say push 0 push 0 pair push 0 same say push 0 push 0 push 0 pair same say", "1", "0", "0", "0");
    }

    private static void nothingOfTheInstructionIsDone() {
        Rows.hold(C, "one that failed says nothing, goes nowhere, makes no child and does not wait",
            "load 0 push 1 push 1 pair say",
            "load 1 push 1 push 1 pair go",
            "load 2 push 1 push 1 pair clone",
            "load 3 push 21 wait",
            "launch 0 0 50",
            "launch 0 1 50",
            "launch 0 2 50",
            "launch 0 3 50",
            "step 0 9",
            "slot 0 0: 4",
            "slot 0 1: 4",
            "slot 0 2: 4",
            "slot 0 3: 4",
            "seal 0",
            "tick 0: 0",
            "outputs 0: 0",
            "agent 0 0 3: 0",
            "host 0 3: -1",
            "agent 0 1 1: 0",
            "slot 0 6: 0",
            "expected 6: -1",
            "agent 0 3 4: 0",
            "agent 0 3 5: 1");
    }
}
