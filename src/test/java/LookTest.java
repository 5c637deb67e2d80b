/** Promises 13, 14 and 15: slot, agent and host. */
public final class LookTest {
    private static final Check C = new Check("LookTest");

    public static void main(String[] args) {
        slots();
        agents();
        kindsOfValues();
        hosts();
        noneSuch();
        C.finish();
    }

    private static void slots() {
        AgentNet net = new AgentNet();
        Kit.load(net, 0, Kit.JUMP, 0);
        Kit.load(net, 1, Kit.PUSH, 3, Kit.GO);
        Kit.load(net, 2, Kit.END);
        for (int p = 0; p < 4; p++) {
            net.launch(2, p, 50);
        }
        net.step(2, 5);
        for (int a = 0; a < 8; a++) {
            C.same("slot " + a, net.slot(2, a), a < 4 ? a + 1 : 0);
            C.same("elsewhere", net.slot(3, a), 0);
        }
        net.crash(2);
        C.same("down", net.slot(2, 0), -1);
        C.same("elsewhere", net.slot(0, 0), 0);
    }

    private static void agents() {
        AgentNet net = new AgentNet();
        Kit.load(net, 0, Kit.PUSH, 6, Kit.SAY, Kit.PUSH, 3, Kit.GO, Kit.PUSH, 1, Kit.PUSH, 2, Kit.PAIR, Kit.PUSH, 9,
            Kit.WAIT);
        net.launch(1, 0, 80);
        net.step(1, 9);
        for (int h = 1; h <= 3; h += 2) {
            int[] due = {6, 1, 76, 1, 0, 0, 0, -1, -1, -1, -1};
            for (int what = 0; what < due.length; what++) {
                C.same("leaving " + what, net.agent(h, 0, what), due[what]);
            }
            if (h == 1) {
                Kit.send(net, 1);
                net.net(0, 0);
            }
        }
        net.step(3, 9);
        int[] due = {14, 1, 71, 1, 9, 1, 1, -1, -1, -1, 1, -1};
        for (int what = 0; what < due.length; what++) {
            C.same("waiting " + what, net.agent(3, 0, what), due[what]);
        }
        net.crash(3);
        for (int what = 0; what < due.length; what++) {
            C.same("down " + what, net.agent(3, 0, what), -1);
        }
        AgentNet ended = Kit.stepped(9, Kit.PUSH, 1, Kit.END);
        C.same("of one that ended", ended.agent(0, 0, 5), 1);
        C.same("its place", ended.agent(0, 0, 0), 3);
        AgentNet failed = Kit.stepped(9, Kit.PUSH, 1, Kit.FIRST);
        C.same("of one that failed", failed.agent(0, 0, 5), 1);
        C.same("its place", failed.agent(0, 0, 0), 2);
    }

    private static void kindsOfValues() {
        AgentNet net = Kit.stepped(6, Kit.PUSH, 1, Kit.PUSH, 2, Kit.PAIR, Kit.PUSH, 3, Kit.PICK, 1, Kit.PUSH, 255);
        int[] kinds = {1, 0, 1, 0, -1, -1, -1};
        for (int i = 0; i < kinds.length; i++) {
            C.same("kind " + i, net.agent(0, 0, 10 + i), kinds[i]);
        }
        C.same("pairs", net.agent(0, 0, 6), 1);
    }

    private static void hosts() {
        AgentNet net = new AgentNet();
        Kit.load(net, 0, Kit.PUSH, 20, Kit.CLONE, Kit.PUSH, 2, Kit.ADD, Kit.GO);
        net.launch(1, 0, 90);
        net.launch(1, 0, 90);
        net.step(1, 9);
        C.same("note of 0: it is given 0 and goes to 2", net.host(1, 2), 2);
        C.same("note of 1", net.host(1, 3), 2);
        C.same("note of 2", net.host(1, 4), -1);
        C.same("note of 4: it is given 1", net.host(1, 6), 3);
        C.same("note of 5", net.host(1, 7), 3);
        C.same("note of 7", net.host(1, 9), -1);
        for (int a = 0; a < 8; a++) {
            boolean there = a % 4 < 2;
            C.same("known of " + a, net.host(1, 10 + a), there ? 0 : -1);
            C.same("known elsewhere", net.host(0, 10 + a), -1);
        }
        net.checkpoint(1);
        C.same("sectors", net.host(1, 1), 5);
        C.same("elsewhere none", net.host(0, 1), 0);
        net.write(1, 2);
        C.same("sectors left", net.host(1, 1), 3);
        net.crash(1);
        C.same("down", net.host(1, 0), 0);
        C.same("sectors when down", net.host(1, 1), 0);
        for (int what = 2; what < 18; what++) {
            C.same("memory when down", net.host(1, what), -1);
        }
    }

    private static void noneSuch() {
        AgentNet net = Kit.launched(9, Kit.END);
        int[] wrongHosts = {-1, 4, Integer.MIN_VALUE, Integer.MAX_VALUE};
        for (int h : wrongHosts) {
            C.same("slot at " + h, net.slot(h, 0), -1);
            C.same("agent at " + h, net.agent(h, 0, 0), -1);
            C.same("host " + h, net.host(h, 0), -1);
        }
        int[] wrongAgents = {-1, 8, Integer.MIN_VALUE, Integer.MAX_VALUE};
        for (int a : wrongAgents) {
            C.same("slot of " + a, net.slot(0, a), -1);
            C.same("agent " + a, net.agent(0, a, 0), -1);
        }
        for (int what : new int[] {-1, 7, 8, 9, 10, 15, 16, Integer.MIN_VALUE, Integer.MAX_VALUE}) {
            C.same("agent's " + what, net.agent(0, 0, what), -1);
        }
        for (int what : new int[] {-1, 18, 19, Integer.MIN_VALUE, Integer.MAX_VALUE}) {
            C.same("host's " + what, net.host(0, what), -1);
        }
        C.same("an empty slot", net.agent(0, 1, 0), -1);
        C.same("a slot elsewhere", net.agent(1, 0, 0), -1);
    }
}
