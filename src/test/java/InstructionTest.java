import java.util.Arrays;

/** The instructions (promises 5 and 14): what each gives, and when it fails. */
public final class InstructionTest {
    private static final Check C = new Check("InstructionTest");

    public static void main(String[] args) {
        arithmetic();
        stackInstructions();
        tableEntries();
        saying();
        going();
        jumping();
        waiting();
        pairs();
        samePairs();
        eightPairs();
        programEnds();
        unknownOnes();
        fullStack();
        missingValues();
        wrongKinds();
        C.finish();
    }

    /** What the bytes say, when run without failures. */
    private static void says(String what, int[] bytes, long... due) {
        AgentNet net = Kit.launched(200, bytes);
        C.same(what + ": count", net.expected(0), due.length);
        for (int i = 0; i < due.length; i++) {
            C.same(what + ": output " + i, net.expectedOutput(0, i), due[i]);
        }
        int rounds = 0;
        while (rounds < 200 && net.step(0, 40) > 0) {
            rounds++;
        }
        Kit.seal(net, 0);
        C.same(what + ": released", net.outputs(0), due.length);
        for (int i = 0; i < due.length; i++) {
            C.same(what + ": released " + i, net.output(0, i), due[i]);
        }
    }

    private static int[] bytes(int... all) {
        return all;
    }

    /** The bytes fail at their last instruction, which begins at place: all is as before it. */
    private static void fails(String what, int instructions, int place, int[] bytes) {
        AgentNet net = Kit.launched(200, bytes);
        if (instructions > 1) {
            net.step(0, instructions - 1);
        }
        C.same(what + ": runs before", net.slot(0, 0), 1);
        int depth = net.agent(0, 0, 5);
        int pairs = net.agent(0, 0, 6);
        C.same(what + ": counted", net.step(0, 2), 1);
        C.same(what + ": failed", net.slot(0, 0), 4);
        C.same(what + ": place", net.agent(0, 0, 0), place);
        C.same(what + ": fuel", net.agent(0, 0, 2), 200 - instructions);
        C.same(what + ": stack", net.agent(0, 0, 5), depth);
        C.same(what + ": pairs", net.agent(0, 0, 6), pairs);
        C.same(what + ": no hop", net.agent(0, 0, 1), 0);
        C.same(what + ": nothing to wait", net.agent(0, 0, 4), 0);
    }

    private static void arithmetic() {
        says("a + b", bytes(Kit.PUSH, 5, Kit.PUSH, 256 - 9, Kit.ADD, Kit.SAY), -4);
        says("a - b", bytes(Kit.PUSH, 5, Kit.PUSH, 9, Kit.SUB, Kit.SAY), -4);
        says("a * b", bytes(Kit.PUSH, 5, Kit.PUSH, 256 - 9, Kit.MUL, Kit.SAY), -45);
        says("signed", bytes(Kit.PUSH, 127, Kit.SAY, Kit.PUSH, 128, Kit.SAY, Kit.PUSH, 255, Kit.SAY),
            127, -128, -1);
        AgentNet net = new AgentNet();
        net.table(0, 0, Integer.MAX_VALUE);
        net.table(0, 1, Integer.MIN_VALUE);
        Kit.load(net, 0, Kit.TABLE, 0, Kit.PUSH, 1, Kit.ADD, Kit.SAY, Kit.TABLE, 1, Kit.PUSH, 1, Kit.SUB,
            Kit.SAY, Kit.TABLE, 0, Kit.TABLE, 0, Kit.MUL, Kit.SAY);
        net.launch(0, 0, 100);
        C.same("sum wraps", net.expectedOutput(0, 0), Integer.MIN_VALUE);
        C.same("difference wraps", net.expectedOutput(0, 1), Integer.MAX_VALUE);
        C.same("product wraps", net.expectedOutput(0, 2), 1);
    }

    private static void stackInstructions() {
        says("pick 0", bytes(Kit.PUSH, 4, Kit.PUSH, 6, Kit.PICK, 0, Kit.SAY, Kit.SAY, Kit.SAY), 6, 6, 4);
        says("pick 1", bytes(Kit.PUSH, 4, Kit.PUSH, 6, Kit.PICK, 1, Kit.SAY, Kit.SAY, Kit.SAY), 4, 6, 4);
        says("drop", bytes(Kit.PUSH, 4, Kit.PUSH, 6, Kit.DROP, Kit.SAY), 4);
        fails("pick 2 of 2", 3, 4, bytes(Kit.PUSH, 4, Kit.PUSH, 6, Kit.PICK, 2));
        fails("pick 255", 2, 2, bytes(Kit.PUSH, 4, Kit.PICK, 255));
        fails("pick of none", 1, 0, bytes(Kit.PICK, 0));
    }

    private static void tableEntries() {
        fails("entry 8", 1, 0, bytes(Kit.TABLE, 8));
        fails("entry 255", 1, 0, bytes(Kit.TABLE, 255));
        AgentNet net = Kit.stepped(1, Kit.TABLE, 7);
        C.same("entry 7 is an int", net.agent(0, 0, 10), 0);
        C.same("place behind it", net.agent(0, 0, 0), 2);
    }

    private static void saying() {
        int[] loop = {Kit.PUSH, 3, Kit.SAY, Kit.JUMP, 0};
        AgentNet net = Kit.launched(200, loop);
        C.same("sixteen and no more", net.expected(0), 16);
        net.step(0, 40);
        C.same("instructions to the failure", net.step(0, 40), 10);
        C.same("said", net.agent(0, 0, 3), 16);
        C.same("failed", net.slot(0, 0), 4);
        C.same("place", net.agent(0, 0, 0), 2);
        C.same("what it would say is on the stack", net.agent(0, 0, 5), 1);
        C.same("fuel", net.agent(0, 0, 2), 150);
        Kit.seal(net, 0);
        C.same("released", net.outputs(0), 16);
        C.same("the last", net.output(0, 15), 3);
        C.same("none behind", net.output(0, 16), Kit.NO_OUTPUT);
    }

    private static void going() {
        AgentNet here = Kit.stepped(2, Kit.PUSH, 0, Kit.GO);
        C.same("it is there", here.slot(0, 0), 1);
        C.same("no hop", here.agent(0, 0, 1), 0);
        C.same("no note", here.host(0, 2), -1);
        C.same("taken", here.agent(0, 0, 5), 0);
        C.same("place behind", here.agent(0, 0, 0), 3);
        C.same("fuel", here.agent(0, 0, 2), 198);
        for (int h = 1; h < 4; h++) {
            AgentNet net = Kit.stepped(9, Kit.PUSH, h, Kit.GO, Kit.END);
            C.same("leaving", net.slot(0, 0), 2);
            C.same("one hop", net.agent(0, 0, 1), 1);
            C.same("note", net.host(0, 2), h);
            C.same("known is not the new hop", net.host(0, 10), 0);
            C.same("place behind", net.agent(0, 0, 0), 3);
        }
        fails("host 4", 2, 2, bytes(Kit.PUSH, 4, Kit.GO));
        fails("host -1", 2, 2, bytes(Kit.PUSH, 255, Kit.GO));
    }

    private static void jumping() {
        says("jump", bytes(Kit.JUMP, 5, Kit.PUSH, 1, Kit.SAY, Kit.PUSH, 2, Kit.SAY), 2);
        says("jump if", bytes(Kit.PUSH, 0, Kit.JUMP_IF, 9, Kit.PUSH, 255, Kit.JUMP_IF, 9, Kit.END,
            Kit.PUSH, 6, Kit.SAY), 6);
        AgentNet far = Kit.stepped(1, Kit.JUMP, 200);
        C.same("out of the program", far.agent(0, 0, 0), 200);
        C.same("that is no failure", far.slot(0, 0), 1);
        far.step(0, 1);
        C.same("but nothing is there", far.slot(0, 0), 4);
        C.same("and the place stays", far.agent(0, 0, 0), 200);
        AgentNet cond = Kit.stepped(2, Kit.PUSH, 1, Kit.JUMP_IF, 255);
        C.same("by the other jump", cond.agent(0, 0, 0), 255);
        AgentNet self = Kit.stepped(5, Kit.JUMP, 0);
        C.same("to itself", self.agent(0, 0, 2), 195);
    }

    private static void waiting() {
        AgentNet none = Kit.stepped(9, Kit.PUSH, 0, Kit.WAIT, Kit.PUSH, 1, Kit.END);
        C.same("nothing to wait", none.slot(0, 0), 3);
        AgentNet most = Kit.stepped(9, Kit.PUSH, 20, Kit.WAIT, Kit.END);
        C.same("twenty", most.agent(0, 0, 4), 20);
        C.same("place", most.agent(0, 0, 0), 3);
        fails("21", 2, 2, bytes(Kit.PUSH, 21, Kit.WAIT));
        fails("-1", 2, 2, bytes(Kit.PUSH, 255, Kit.WAIT));
    }

    private static void pairs() {
        says("first and second", bytes(Kit.PUSH, 4, Kit.PUSH, 9, Kit.PAIR, Kit.PICK, 0, Kit.FIRST, Kit.SAY,
            Kit.SECOND, Kit.SAY), 4, 9);
        says("set first", bytes(Kit.PUSH, 4, Kit.PUSH, 9, Kit.PAIR, Kit.PICK, 0, Kit.PUSH, 5, Kit.SET_FIRST,
            Kit.PICK, 0, Kit.FIRST, Kit.SAY, Kit.SECOND, Kit.SAY), 5, 9);
        says("set second", bytes(Kit.PUSH, 4, Kit.PUSH, 9, Kit.PAIR, Kit.PICK, 0, Kit.PUSH, 5, Kit.SET_SECOND,
            Kit.PICK, 0, Kit.FIRST, Kit.SAY, Kit.SECOND, Kit.SAY), 4, 5);
        says("in itself", bytes(Kit.PUSH, 4, Kit.PUSH, 9, Kit.PAIR, Kit.PICK, 0, Kit.PICK, 0, Kit.SET_FIRST,
            Kit.FIRST, Kit.FIRST, Kit.FIRST, Kit.SECOND, Kit.SAY), 9);
        says("shared", bytes(Kit.PUSH, 1, Kit.PUSH, 2, Kit.PAIR, Kit.PICK, 0, Kit.PUSH, 7, Kit.PAIR, Kit.PICK, 1,
            Kit.PUSH, 5, Kit.SET_FIRST, Kit.FIRST, Kit.FIRST, Kit.SAY), 5);
        AgentNet net = Kit.stepped(4, Kit.PUSH, 1, Kit.PUSH, 2, Kit.PAIR, Kit.PICK, 0, Kit.DROP, Kit.DROP);
        C.same("one pair twice", net.agent(0, 0, 6), 1);
        C.same("kind 0", net.agent(0, 0, 10), 1);
        C.same("kind 1", net.agent(0, 0, 11), 1);
        net.step(0, 1);
        C.same("still reached", net.agent(0, 0, 6), 1);
        net.step(0, 1);
        C.same("not reached", net.agent(0, 0, 6), 0);
    }

    private static void samePairs() {
        int[] twoPairs = {Kit.PUSH, 1, Kit.PUSH, 2, Kit.PAIR, Kit.PUSH, 1, Kit.PUSH, 2, Kit.PAIR};
        says("alike is not the same", concat(twoPairs, Kit.SAME, Kit.SAY), 0);
        says("the same pair", concat(twoPairs, Kit.PICK, 0, Kit.SAME, Kit.SAY), 1);
        says("the same int", bytes(Kit.PUSH, 255, Kit.PUSH, 255, Kit.SAME, Kit.SAY), 1);
        says("other ints", bytes(Kit.PUSH, 1, Kit.PUSH, 2, Kit.SAME, Kit.SAY), 0);
        says("int and pair", concat(twoPairs, Kit.PUSH, 0, Kit.SAME, Kit.SAY), 0);
        says("pair 0 and int 0", bytes(Kit.PUSH, 0, Kit.PUSH, 0, Kit.PUSH, 0, Kit.PAIR, Kit.SAME, Kit.SAY), 0);
    }

    private static void eightPairs() {
        // each round puts another pair before the chain
        int[] chain = {Kit.PUSH, 0, Kit.PUSH, 0, Kit.PAIR, Kit.PUSH, 0, Kit.PAIR, Kit.JUMP, 5};
        AgentNet net = Kit.launched(200, chain);
        net.step(0, 3 + 3 * 7 - 1);
        C.same("eight", net.agent(0, 0, 6), 8);
        C.same("the ninth", net.step(0, 40), 3);
        C.same("failed", net.slot(0, 0), 4);
        C.same("at the pair", net.agent(0, 0, 0), 7);
        C.same("eight still", net.agent(0, 0, 6), 8);
        C.same("both values are there", net.agent(0, 0, 5), 2);

        int[] eight = {Kit.PUSH, 0, Kit.PUSH, 0, Kit.PAIR};
        int[] more = eight;
        for (int i = 0; i < 7; i++) {
            more = concat(more, Kit.PUSH, 0, Kit.PAIR);
        }
        // what is no more reached makes room: the chain is dropped, then a pair is made
        says("room again", concat(more, Kit.DROP, Kit.PUSH, 3, Kit.PUSH, 4, Kit.PAIR, Kit.SECOND, Kit.SAY), 4);
        says("one less", concat(more, Kit.FIRST, Kit.PUSH, 9, Kit.PAIR, Kit.SECOND, Kit.SAY), 9);
        fails("all eight are given", 19, 28,
            concat(more, Kit.PICK, 0, Kit.PAIR));
    }

    private static void programEnds() {
        AgentNet net = Kit.stepped(1, Kit.END);
        C.same("ended", net.slot(0, 0), 3);
        C.same("place behind its end", net.agent(0, 0, 0), 1);
        C.same("fuel", net.agent(0, 0, 2), 199);
        fails("no bytes", 1, 0, bytes());
        fails("behind the last", 2, 2, bytes(Kit.PUSH, 1));
        for (int code : new int[] {Kit.PUSH, Kit.PICK, Kit.TABLE, Kit.JUMP, Kit.JUMP_IF}) {
            fails("half of " + code, 2, 2, bytes(Kit.PUSH, 1, code));
        }
        int[] full = new int[48];
        Arrays.fill(full, Kit.PUSH);
        full[46] = Kit.JUMP;
        full[47] = 46;
        full[0] = Kit.JUMP;
        full[1] = 46;
        AgentNet last = Kit.stepped(3, full);
        C.same("the 48th byte is there", last.slot(0, 0), 1);
        full[1] = 47;
        full[47] = Kit.PUSH;
        fails("half of one at the 48th", 2, 47, full);
    }

    private static void unknownOnes() {
        for (int code : new int[] {20, 21, 99, 127, 128, 255}) {
            fails("code " + code, 1, 0, bytes(code, 0));
        }
    }

    private static void fullStack() {
        AgentNet six = Kit.stepped(6, Kit.zerosThen(6, Kit.END));
        C.same("six", six.agent(0, 0, 5), 6);
        C.same("that is no failure", six.slot(0, 0), 1);
        for (int[] sixth : new int[][] {{Kit.PUSH, 0}, {Kit.PICK, 4}, {Kit.TABLE, 0}}) {
            AgentNet net = Kit.stepped(6, Kit.zerosThen(5, sixth));
            C.same("a sixth by " + sixth[0], net.agent(0, 0, 5), 6);
            C.same("runs", net.slot(0, 0), 1);
        }
        AgentNet jumps = Kit.stepped(9, Kit.zerosThen(6, Kit.JUMP, 12));
        C.same("a jump with six", jumps.slot(0, 0), 1);
        for (int code : new int[] {Kit.FIRST, Kit.SECOND}) {
            AgentNet net = Kit.stepped(9, Kit.zerosThen(5, Kit.PUSH, 0, Kit.PAIR, Kit.PICK, 0, code));
            C.same("part of a pair with six", net.agent(0, 0, 0), 16);
            C.same("the part", net.agent(0, 0, 15), 0);
        }
        fails("a seventh pushed", 7, 12, Kit.zerosThen(6, Kit.PUSH, 0));
        fails("a seventh picked", 7, 12, Kit.zerosThen(6, Kit.PICK, 5));
        fails("a seventh of the table", 7, 12, Kit.zerosThen(6, Kit.TABLE, 0));
        says("what takes as it gives", Kit.zerosThen(6, Kit.ADD, Kit.PUSH, 5, Kit.CLONE, Kit.SAY), 0);
        says("a pair of six", Kit.zerosThen(6, Kit.PAIR, Kit.FIRST, Kit.SAY), 0);
    }

    private static void missingValues() {
        for (int code : new int[] {2, 3, 4, 6, 8, 9, 12, 13, 14, 15, 16, 17, 18, 19}) {
            fails("nothing for " + code, 1, 0, bytes(code));
        }
        fails("nothing for 11", 1, 0, bytes(Kit.JUMP_IF, 0));
        for (int code : new int[] {2, 3, 4, 14, 17, 18, 19}) {
            fails("one for " + code, 2, 2, bytes(Kit.PUSH, 1, code));
        }
    }

    private static void wrongKinds() {
        int[] pair = {Kit.PUSH, 1, Kit.PUSH, 1, Kit.PAIR};
        for (int code : new int[] {8, 9, 11, 12, 13}) {
            fails("a pair for " + code, 4, 5, concat(pair, code, 0));
        }
        for (int code : new int[] {2, 3, 4}) {
            fails("a pair above for " + code, 5, 7, concat(concat(bytes(Kit.PUSH, 1), pair), code));
            fails("a pair below for " + code, 5, 7, concat(pair, Kit.PUSH, 1, code));
        }
        for (int code : new int[] {15, 16}) {
            fails("an int for " + code, 2, 2, bytes(Kit.PUSH, 1, code));
        }
        for (int code : new int[] {17, 18}) {
            fails("an int for the pair of " + code, 5, 7, concat(concat(bytes(Kit.PUSH, 1), pair), code));
            fails("two ints for " + code, 3, 4, bytes(Kit.PUSH, 1, Kit.PUSH, 1, code));
        }
        says("any value is dropped", concat(pair, Kit.DROP, Kit.PUSH, 2, Kit.SAY), 2);
    }

    private static int[] concat(int[] before, int... rest) {
        int[] all = Arrays.copyOf(before, before.length + rest.length);
        System.arraycopy(rest, 0, all, before.length, rest.length);
        return all;
    }
}
