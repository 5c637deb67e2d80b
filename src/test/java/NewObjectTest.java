/** Promise 1: all hosts up, tables 0, nothing in the memories, no programs, agents or messages. */
public final class NewObjectTest {
    public static void main(String[] args) {
        Check c = new Check("NewObjectTest");
        c.same("NONE", AgentNet.NONE, -1);
        nothingIsThere(c, new AgentNet());
        programsAreEmpty(c);
        tablesAreZero(c);
        objectsAreApart(c);
        c.finish();
    }

    private static void nothingIsThere(Check c, AgentNet net) {
        for (int h = 0; h < 4; h++) {
            c.same("up " + h, net.host(h, 0), 1);
            c.same("sectors " + h, net.host(h, 1), 0);
            for (int a = 0; a < 8; a++) {
                c.same("slot " + h + " " + a, net.slot(h, a), 0);
                c.same("note " + h + " " + a, net.host(h, 2 + a), -1);
                c.same("known " + h + " " + a, net.host(h, 10 + a), -1);
                c.same("agent " + h + " " + a, net.agent(h, a, 0), -1);
            }
        }
        for (int a = 0; a < 8; a++) {
            c.same("sealed " + a, net.sealed(a), -1);
            c.same("outputs " + a, net.outputs(a), 0);
            c.same("output " + a, net.output(a, 0), Kit.NO_OUTPUT);
            c.same("expected " + a, net.expected(a), -1);
            c.same("expectedOutput " + a, net.expectedOutput(a, 0), Kit.NO_OUTPUT);
        }
        c.same("message", net.message(0, 0), -1);
        for (int h = 0; h < 4; h++) {
            int at = h;
            c.same("step " + h, net.step(h, 1), 0);
            c.same("tick " + h, net.tick(h), 0);
            c.same("start " + h, net.start(h), false);
            c.same("checkpoint " + h, net.checkpoint(h), 1);
            c.same("write " + h, net.write(at, 1), 0);
        }
    }

    private static void programsAreEmpty(Check c) {
        AgentNet net = new AgentNet();
        for (int p = 0; p < 4; p++) {
            c.same("first byte of " + p, net.program(p, 1, 1), 1);
        }
    }

    private static void tablesAreZero(Check c) {
        for (int h = 0; h < 4; h++) {
            AgentNet net = new AgentNet();
            for (int k = 0; k < 8; k++) {
                Kit.load(net, 0, Kit.TABLE, k, Kit.SAY);
            }
            net.launch(h, 0, 100);
            c.same("outputs at " + h, net.expected(0), 8);
            for (int k = 0; k < 8; k++) {
                c.same("entry " + h + " " + k, net.expectedOutput(0, k), 0);
            }
        }
    }

    private static void objectsAreApart(Check c) {
        AgentNet one = Kit.launched(9, Kit.PUSH, 3, Kit.SAY);
        one.step(0, 3);
        one.crash(1);
        nothingIsThere(c, new AgentNet());
        c.same("the other one's slot", one.slot(0, 0), 4);
    }
}
