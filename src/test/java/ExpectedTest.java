/** Promises 19 and 20: expected and expectedOutput, the failure-free run. */
public final class ExpectedTest {
    private static final Check C = new Check("ExpectedTest");

    public static void main(String[] args) {
        tablesOfOtherHosts();
        waitingDoesNothing();
        children();
        endsOfARun();
        crashesDoNotMatter();
        noneSuch();
        C.finish();
    }

    private static void tablesOfOtherHosts() {
        AgentNet net = new AgentNet();
        for (int h = 0; h < 4; h++) {
            net.table(h, 6, 10 + h);
        }
        Kit.load(net, 0, Kit.TABLE, 6, Kit.SAY, Kit.PUSH, 3, Kit.GO, Kit.TABLE, 6, Kit.SAY, Kit.PUSH, 3, Kit.GO,
            Kit.TABLE, 6, Kit.SAY, Kit.PUSH, 0, Kit.GO, Kit.TABLE, 6, Kit.SAY);
        net.launch(2, 0, 100);
        net.launch(3, 0, 100);
        long[] fromTwo = {12, 13, 13, 10};
        long[] fromThree = {13, 13, 13, 10};
        C.same("count", net.expected(0), 4);
        C.same("count", net.expected(1), 4);
        for (int i = 0; i < 4; i++) {
            C.same("from host 2", net.expectedOutput(0, i), fromTwo[i]);
            C.same("from host 3", net.expectedOutput(1, i), fromThree[i]);
        }
        C.same("it has not moved", net.agent(2, 0, 2), 100);
        C.same("nothing is released", net.outputs(0), 0);
    }

    private static void waitingDoesNothing() {
        AgentNet net = Kit.launched(100, Kit.PUSH, 20, Kit.WAIT, Kit.PUSH, 5, Kit.SAY, Kit.PUSH, 21, Kit.WAIT,
            Kit.PUSH, 6, Kit.SAY);
        C.same("21 fails all the same", net.expected(0), 1);
        C.same("said behind a wait", net.expectedOutput(0, 0), 5);
    }

    private static void children() {
        AgentNet net = new AgentNet();
        net.table(1, 0, 77);
        net.table(2, 0, 88);
        // at host 1 it clones; the parent goes on to host 2, the child stays
        Kit.load(net, 0, Kit.PUSH, 5, Kit.SAY, Kit.PUSH, 1, Kit.GO, Kit.PUSH, 20, Kit.CLONE, Kit.JUMP_IF, 14, Kit.PUSH, 2,
            Kit.GO, Kit.TABLE, 0, Kit.SAY, Kit.END);
        Kit.load(net, 1, Kit.PUSH, 0, Kit.CLONE, Kit.SAY);
        net.launch(3, 0, 60);
        net.launch(3, 1, 60);
        C.same("parent's count", net.expected(0), 2);
        C.same("child's count", net.expected(4), 1);
        C.same("parent's first", net.expectedOutput(0, 0), 5);
        C.same("parent at host 2", net.expectedOutput(0, 1), 88);
        C.same("child at host 1", net.expectedOutput(4, 0), 77);
        C.same("no more of the child", net.expectedOutput(4, 1), Kit.NO_OUTPUT);
        C.same("no child", net.expected(5), -1);
        C.same("who was launched", net.expected(1), 1);
        C.same("its answer", net.expectedOutput(1, 0), -1);
        AgentNet quiet = Kit.launched(60, Kit.PUSH, 20, Kit.CLONE, Kit.END);
        C.same("a child that says nothing", quiet.expected(4), 0);
        AgentNet late = Kit.launched(60, Kit.PUSH, 20, Kit.CLONE, 99);
        C.same("a child of one that fails then", late.expected(4), 0);
    }

    private static void endsOfARun() {
        AgentNet fuel = Kit.launched(3, Kit.PUSH, 1, Kit.SAY, Kit.PUSH, 2, Kit.SAY);
        C.same("the fuel ends", fuel.expected(0), 1);
        AgentNet one = Kit.launched(1, Kit.PUSH, 1, Kit.SAY);
        C.same("fuel 1", one.expected(0), 0);
        AgentNet end = Kit.launched(200, Kit.PUSH, 1, Kit.SAY, Kit.END, Kit.PUSH, 1, Kit.SAY);
        C.same("it ends", end.expected(0), 1);
        AgentNet fails = Kit.launched(200, Kit.PUSH, 1, Kit.SAY, Kit.ADD, Kit.PUSH, 1, Kit.SAY);
        C.same("it fails", fails.expected(0), 1);
        AgentNet most = Kit.launched(200, Kit.PUSH, 1, Kit.SAY, Kit.JUMP, 0);
        C.same("sixteen", most.expected(0), 16);
        C.same("the last", most.expectedOutput(0, 15), 1);
        C.same("no more", most.expectedOutput(0, 16), Kit.NO_OUTPUT);
        // 199 instructions before the last fuel is used to say it
        AgentNet all = Kit.launched(200, Kit.PUSH, 65, Kit.PUSH, 1, Kit.SUB, Kit.PICK, 0, Kit.JUMP_IF, 2, Kit.PUSH, 9,
            Kit.SAY);
        C.same("not all of it", all.expected(0), 0);
        AgentNet loops = Kit.launched(200, Kit.PUSH, 49, Kit.PUSH, 1, Kit.SUB, Kit.PICK, 0, Kit.JUMP_IF, 2, Kit.JUMP, 12,
            Kit.SAY, Kit.PUSH, 9, Kit.SAY);
        C.same("the two hundredth", loops.expected(0), 1);
        C.same("what it says", loops.expectedOutput(0, 0), 9);
    }

    private static void crashesDoNotMatter() {
        AgentNet net = Kit.launched(50, Kit.PUSH, 1, Kit.GO, Kit.PUSH, 3, Kit.SAY);
        Kit.restart(net, 0);
        net.crash(1);
        C.same("gone, but expected", net.expected(0), 1);
        C.same("this", net.expectedOutput(0, 0), 3);
    }

    private static void noneSuch() {
        AgentNet net = Kit.launched(50, Kit.PUSH, 3, Kit.SAY);
        for (int a : new int[] {-1, 1, 2, 3, 4, 5, 7, 8, Integer.MIN_VALUE, Integer.MAX_VALUE}) {
            C.same("agent " + a, net.expected(a), -1);
            C.same("output of " + a, net.expectedOutput(a, 0), Kit.NO_OUTPUT);
        }
        for (int i : new int[] {-1, 1, 16, 32, Integer.MIN_VALUE, Integer.MAX_VALUE}) {
            C.same("output " + i, net.expectedOutput(0, i), Kit.NO_OUTPUT);
        }
        C.same("output 0", net.expectedOutput(0, 0), 3);
    }
}
