/** Promise 16: sealed. */
public final class SealedTest {
    private static final Check C = new Check("SealedTest");

    public static void main(String[] args) {
        alongAWay();
        allKindsOfSlots();
        noneSuch();
        C.finish();
    }

    private static void alongAWay() {
        AgentNet net = Kit.launched(100, Kit.PUSH, 1, Kit.GO, Kit.PUSH, 2, Kit.GO, Kit.END);
        C.same("not sealed", net.sealed(0), -1);
        Kit.seal(net, 0);
        C.same("running", net.sealed(0), 1);
        net.step(0, 2);
        C.same("leaving in the memory alone", net.sealed(0), 1);
        Kit.seal(net, 0);
        C.same("leaving with one hop", net.sealed(0), 101);
        net.tick(0);
        net.net(0, 0);
        C.same("there in the memory alone", net.sealed(0), 101);
        Kit.seal(net, 1);
        C.same("there, the one that is leaving does not count", net.sealed(0), 101);
        net.step(1, 2);
        Kit.seal(net, 1);
        C.same("leaving with two, the other with one", net.sealed(0), 201);
        net.net(0, 0);
        Kit.seal(net, 0);
        net.crash(1);
        C.same("one that is down counts", net.sealed(0), 201);
        net.start(1);
        net.tick(1);
        net.net(0, 0);
        net.step(2, 3);
        Kit.seal(net, 2);
        C.same("ended", net.sealed(0), 201);
        net.net(0, 0);
        Kit.seal(net, 1);
        C.same("at one alone", net.sealed(0), 201);
        net.crash(2);
        C.same("which is down", net.sealed(0), 201);
    }

    private static void allKindsOfSlots() {
        AgentNet net = new AgentNet();
        Kit.load(net, 0, Kit.JUMP, 0);
        Kit.load(net, 1, Kit.PUSH, 3, Kit.GO);
        Kit.load(net, 2, Kit.END);
        for (int p = 0; p < 4; p++) {
            net.launch(2, p, 50);
        }
        net.step(2, 5);
        Kit.seal(net, 2);
        int[] due = {1, 101, 1, 1, -1, -1, -1, -1};
        for (int a = 0; a < 8; a++) {
            C.same("agent " + a, net.sealed(a), due[a]);
        }
    }

    private static void noneSuch() {
        AgentNet net = new AgentNet();
        for (int a : new int[] {-1, 0, 7, 8, Integer.MIN_VALUE, Integer.MAX_VALUE}) {
            C.same("agent " + a, net.sealed(a), -1);
        }
        net.launch(0, 0, 5);
        Kit.seal(net, 0);
        C.same("agent 0", net.sealed(0), 1);
        C.same("agent 1", net.sealed(1), -1);
        C.same("agent 8", net.sealed(8), -1);
    }
}
