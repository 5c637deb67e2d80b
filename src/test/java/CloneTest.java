/** Instruction 12: who clones, and what the child and its parent have then. */
public final class CloneTest {
    private static final Check C = new Check("CloneTest");

    public static void main(String[] args) {
        childAndParent();
        edgesOfTheShare();
        onlyOnce();
        childrenDoNotClone();
        pairsAreTheirOwn();
        afterAHop();
        C.finish();
    }

    private static void childAndParent() {
        AgentNet net = new AgentNet();
        Kit.load(net, 0, Kit.PUSH, 9, Kit.SAY, Kit.PUSH, 7, Kit.PUSH, 30, Kit.CLONE, Kit.SAY, Kit.SAY);
        net.launch(0, 0, 1);
        net.launch(2, 0, 100);
        net.step(2, 5);
        int[] parent = {8, 0, 65, 1, 0, 2, 0};
        int[] child = {8, 0, 30, 0, 0, 2, 0};
        for (int what = 0; what < parent.length; what++) {
            C.same("parent " + what, net.agent(2, 1, what), parent[what]);
            C.same("child " + what, net.agent(2, 5, what), child[what]);
        }
        C.same("child's slot", net.slot(2, 5), 1);
        C.same("child's hops known", net.host(2, 15), 0);
        C.same("child's note", net.host(2, 7), -1);
        C.same("no other child", net.slot(2, 4), 0);
        net.step(2, 9);
        Kit.seal(net, 2);
        long[] parentSays = {9, 0, 7};
        for (int i = 0; i < 3; i++) {
            C.same("parent says", net.output(1, i), parentSays[i]);
        }
        C.same("child's outputs", net.outputs(5), 2);
        C.same("child is given 1", net.output(5, 0), 1);
        C.same("child has the stack", net.output(5, 1), 7);
        C.same("both failed at the end", net.slot(2, 5) + net.slot(2, 1), 8);
    }

    /** With 10 fuel, 8 are left when the clone instruction has been paid. */
    private static void edgesOfTheShare() {
        int[] shares = {-1, 0, 1, 8, 9, 100};
        for (int share : shares) {
            AgentNet net = Kit.launched(10, Kit.PUSH, share & 255, Kit.CLONE, Kit.SAY);
            net.step(0, 2);
            boolean clones = share >= 1 && share <= 8;
            C.same("slot with " + share, net.slot(0, 4), clones ? 1 : 0);
            C.same("fuel with " + share, net.agent(0, 0, 2), clones ? 8 - share : 8);
            C.same("child's fuel with " + share, net.agent(0, 4, 2), clones ? share : -1);
            C.same("it runs on", net.slot(0, 0), 1);
            C.same("it is given one", net.agent(0, 0, 5), 1);
            C.same("expected child", net.expected(4), clones ? 1 : -1);
            if (share != 8) {
                C.same("what it is given", net.expectedOutput(0, 0), clones ? 0 : -1);
            } else {
                C.same("no fuel to say it", net.expected(0), 0);
                C.same("it does nothing", net.step(0, 1), 1);
            }
        }
    }

    private static void onlyOnce() {
        AgentNet net = Kit.launched(50, Kit.PUSH, 60, Kit.CLONE, Kit.SAY, Kit.PUSH, 5, Kit.CLONE, Kit.SAY,
            Kit.PUSH, 5, Kit.CLONE, Kit.SAY);
        C.same("count", net.expected(0), 3);
        C.same("too much: it has not cloned", net.expectedOutput(0, 0), -1);
        C.same("it clones", net.expectedOutput(0, 1), 0);
        C.same("it has cloned", net.expectedOutput(0, 2), -1);
        net.step(0, 40);
        Kit.seal(net, 0);
        for (int i = 0; i < 3; i++) {
            C.same("released", net.output(0, i), net.expectedOutput(0, i));
        }
    }

    private static void childrenDoNotClone() {
        AgentNet net = Kit.launched(100, Kit.PUSH, 40, Kit.CLONE, Kit.DROP, Kit.PUSH, 5, Kit.CLONE, Kit.SAY);
        C.same("the child", net.expectedOutput(4, 0), -1);
        net.step(0, 40);
        Kit.seal(net, 0);
        C.same("the child, released", net.output(4, 0), -1);
        C.same("the child's outputs", net.outputs(4), 1);
    }

    private static void pairsAreTheirOwn() {
        // a pair of (1, 2); the clone's answer becomes its first; both say it
        AgentNet net = Kit.launched(100, Kit.PUSH, 1, Kit.PUSH, 2, Kit.PAIR, Kit.PICK, 0, Kit.PUSH, 20, Kit.CLONE,
            Kit.SET_FIRST, Kit.PICK, 0, Kit.FIRST, Kit.SAY, Kit.SECOND, Kit.SAY);
        net.step(0, 7);
        C.same("parent's pairs", net.agent(0, 0, 6), 1);
        C.same("child's pairs", net.agent(0, 4, 6), 1);
        net.step(0, 20);
        Kit.seal(net, 0);
        C.same("parent's first", net.output(0, 0), 0);
        C.same("child's first", net.output(4, 0), 1);
        C.same("parent's second", net.output(0, 1), 2);
        C.same("child's second", net.output(4, 1), 2);
    }

    private static void afterAHop() {
        AgentNet net = Kit.launched(100, Kit.PUSH, 3, Kit.GO, Kit.PUSH, 20, Kit.CLONE, Kit.SAY, Kit.PUSH, 1, Kit.GO,
            Kit.PUSH, 20, Kit.CLONE, Kit.SAY);
        net.step(0, 9);
        Kit.send(net, 0);
        net.net(0, 0);
        net.step(3, 9);
        C.same("parent's hops", net.agent(3, 0, 1), 2);
        C.same("child's hops", net.agent(3, 4, 1), 1);
        C.same("known of the parent", net.host(3, 10), 1);
        C.same("known of the child", net.host(3, 14), 0);
        Kit.seal(net, 3);
        net.net(0, 1);
        net.tick(3);
        C.same("both are under way", net.message(0, 1) + net.message(1, 1), 4);
        C.same("parent has cloned, in the image", net.message(0, 16), 1);
        C.same("child has not", net.message(1, 16), 0);
        C.same("parent's said", net.message(0, 14), 1);
        net.net(0, 0);
        net.net(0, 0);
        net.step(1, 9);
        Kit.seal(net, 1);
        C.same("parent remembers over a hop", net.output(0, 1), -1);
        C.same("child may not", net.output(4, 1), -1);
    }
}
