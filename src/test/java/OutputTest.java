/** Promises 17 and 18: outputs and output. */
public final class OutputTest {
    private static final Check C = new Check("OutputTest");

    public static void main(String[] args) {
        overTwoHosts();
        sixteen();
        readme();
        noneSuch();
        C.finish();
    }

    private static void overTwoHosts() {
        AgentNet net = Kit.launched(100, Kit.PUSH, 4, Kit.SAY, Kit.PUSH, 1, Kit.GO, Kit.PUSH, 5, Kit.SAY, Kit.PUSH, 0,
            Kit.GO, Kit.PUSH, 6, Kit.SAY);
        net.step(0, 4);
        C.same("said, not released", net.outputs(0), 0);
        C.same("none", net.output(0, 0), Kit.NO_OUTPUT);
        Kit.send(net, 0);
        C.same("released", net.outputs(0), 1);
        net.net(0, 0);
        net.step(1, 4);
        C.same("one still", net.outputs(0), 1);
        Kit.restart(net, 1);
        net.tick(0);
        net.net(0, 0);
        net.step(1, 4);
        Kit.seal(net, 1);
        C.same("two", net.outputs(0), 2);
        net.crash(0);
        net.crash(1);
        C.same("what is released stays", net.outputs(0), 2);
        net.start(1);
        net.start(0);
        net.tick(1);
        net.net(1, 0);
        net.step(0, 3);
        Kit.seal(net, 0);
        C.same("three", net.outputs(0), 3);
        for (int i = 0; i < 3; i++) {
            C.same("output " + i, net.output(0, i), 4 + i);
        }
        C.same("no fourth", net.output(0, 3), Kit.NO_OUTPUT);
    }

    private static void sixteen() {
        AgentNet net = Kit.launched(200, Kit.PUSH, 128, Kit.PICK, 0, Kit.SAY, Kit.PUSH, 1, Kit.ADD, Kit.JUMP, 2);
        for (int i = 0; i < 5; i++) {
            net.step(0, 40);
        }
        Kit.seal(net, 0);
        C.same("sixteen", net.outputs(0), 16);
        for (int i = 0; i < 16; i++) {
            C.same("output " + i, net.output(0, i), i - 128);
        }
        C.same("no more", net.output(0, 16), Kit.NO_OUTPUT);
        C.same("nor of the next agent", net.output(1, 0), Kit.NO_OUTPUT);
    }

    private static void readme() {
        AgentNet net = new AgentNet();
        net.table(1, 0, 42);
        net.program(0, 0x01_01_09_07_00_08_00L, 7);
        int a = net.launch(0, 0, 50);
        net.step(0, 5);
        net.checkpoint(0);
        net.write(0, 99);
        net.tick(0);
        net.net(0, 0);
        net.step(1, 5);
        net.checkpoint(1);
        net.write(1, 99);
        C.same("output", net.output(a, 0), 42);
        C.same("expected", net.expectedOutput(a, 0), 42);
    }

    private static void noneSuch() {
        AgentNet net = Kit.stepped(2, Kit.PUSH, 1, Kit.SAY);
        Kit.seal(net, 0);
        for (int a : new int[] {-1, 8, Integer.MIN_VALUE, Integer.MAX_VALUE}) {
            C.same("outputs of " + a, net.outputs(a), -1);
            C.same("output of " + a, net.output(a, 0), Kit.NO_OUTPUT);
        }
        for (int i : new int[] {-1, 1, 16, 32, Integer.MIN_VALUE, Integer.MAX_VALUE}) {
            C.same("output " + i, net.output(0, i), Kit.NO_OUTPUT);
        }
        for (int a = 1; a < 8; a++) {
            C.same("one that was not launched", net.outputs(a), 0);
        }
    }
}
