/** Promise 6: tick. */
public final class TickTest {
    private static final Check C = new Check("TickTest");
    private static final int[] TO_HOST_1 = {Kit.PUSH, 1, Kit.GO};

    public static void main(String[] args) {
        waitsGetLess();
        arrivalsAreSent();
        onlyWhatIsSealed();
        inTheOrderOfAgents();
        atMostTwenty();
        wrongArguments();
        C.finish();
    }

    private static void waitsGetLess() {
        AgentNet net = new AgentNet();
        Kit.load(net, 0, Kit.PUSH, 3, Kit.WAIT, Kit.END);
        Kit.load(net, 1, Kit.PUSH, 1, Kit.WAIT, Kit.JUMP, 3);
        net.launch(0, 0, 9);
        net.launch(0, 1, 9);
        net.launch(1, 0, 9);
        net.step(0, 2);
        net.step(1, 2);
        for (int left = 2; left >= 0; left--) {
            C.same("messages", net.tick(0), 0);
            C.same("ticks to wait", net.agent(0, 0, 4), left);
            C.same("no less than none", net.agent(0, 1, 4), 0);
        }
        C.same("not at another host", net.agent(1, 2, 4), 3);
        net.tick(0);
        C.same("none stays none", net.agent(0, 0, 4), 0);
        C.same("it goes on", net.step(0, 1), 2);
        C.same("ended", net.slot(0, 0), 3);
    }

    private static void arrivalsAreSent() {
        AgentNet net = Kit.stepped(2, TO_HOST_1);
        Kit.seal(net, 0);
        C.same("one", net.tick(0), 1);
        C.same("an arrival", net.message(0, 0), 0);
        C.same("from", net.message(0, 3), 0);
        C.same("to", net.message(0, 4), 1);
        C.same("again at every tick", net.tick(0), 2);
        C.same("other hosts send none", net.tick(1), 2);
        net.net(0, 0);
        Kit.seal(net, 1);
        net.net(1, 0);
        C.same("the slot is empty", net.slot(0, 0), 0);
        C.same("no more are sent", net.tick(0), 1);
    }

    private static void onlyWhatIsSealed() {
        AgentNet net = Kit.launched(100, Kit.PUSH, 1, Kit.GO, Kit.PUSH, 0, Kit.GO, Kit.PUSH, 1, Kit.GO);
        C.same("it runs", net.tick(0), 0);
        Kit.seal(net, 0);
        net.step(0, 2);
        C.same("sealed as running", net.tick(0), 0);
        net.checkpoint(0);
        C.same("being written", net.tick(0), 0);
        net.write(0, 1);
        C.same("half written", net.tick(0), 0);
        net.write(0, 1);
        C.same("sealed", net.tick(0), 1);
        net.net(0, 0);
        net.step(1, 2);
        Kit.send(net, 1);
        // a receipt and an arrival
        C.same("under way", net.tick(2), 2);
        net.net(1, 0);
        net.step(0, 2);
        C.same("leaving again", net.slot(0, 0), 2);
        C.same("with three hops", net.agent(0, 0, 1), 3);
        C.same("one hop is sealed, not three", net.tick(0), 1);
        Kit.seal(net, 0);
        C.same("three are sealed", net.tick(0), 3);
    }

    private static void inTheOrderOfAgents() {
        AgentNet net = new AgentNet();
        Kit.load(net, 0, Kit.PUSH, 20, Kit.CLONE, Kit.PUSH, 2, Kit.ADD, Kit.GO);
        net.launch(0, 0, 100);
        net.launch(0, 0, 100);
        net.step(0, 9);
        Kit.seal(net, 0);
        C.same("four", net.tick(0), 4);
        int[] agents = {0, 1, 4, 5};
        for (int k = 0; k < 4; k++) {
            C.same("agent", net.message(k, 1), agents[k]);
            C.same("to", net.message(k, 4), k < 2 ? 2 : 3);
        }
    }

    private static void atMostTwenty() {
        AgentNet net = new AgentNet();
        Kit.load(net, 0, TO_HOST_1);
        for (int a = 0; a < 3; a++) {
            net.launch(0, 0, 9);
        }
        net.step(0, 2);
        Kit.seal(net, 0);
        for (int i = 1; i <= 6; i++) {
            C.same("three more", net.tick(0), 3 * i);
        }
        C.same("two more, one lost", net.tick(0), 20);
        C.same("the last one", net.message(19, 1), 1);
        C.same("all lost", net.tick(0), 20);
        C.same("the last one still", net.message(19, 1), 1);
        C.same("no more", net.message(20, 0), -1);
        net.net(3, 1);
        C.same("room for one", net.tick(0), 20);
        C.same("it is the last", net.message(19, 1), 0);
    }

    private static void wrongArguments() {
        AgentNet net = new AgentNet();
        C.illegalArgument("host -1", () -> net.tick(-1));
        C.illegalArgument("host 4", () -> net.tick(4));
        net.crash(3);
        C.illegalState("down", () -> net.tick(3));
        net.start(3);
        C.same("up again", net.tick(3), 0);
    }
}
