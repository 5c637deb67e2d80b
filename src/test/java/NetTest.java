/** Promise 11: net, and what a message does where it is delivered. */
public final class NetTest {
    private static final Check C = new Check("NetTest");

    public static void main(String[] args) {
        deliveredLostDoubled();
        anyOrder();
        atMostTwenty();
        arrivals();
        arrivalsThatAreKnown();
        arrivalsOverAnySlot();
        receipts();
        lateReceipts();
        toAHostThatIsDown();
        aReceiptGoesBehindTheRow();
        theImageIsWhatRuns();
        allPartsArrive();
        wrongArguments();
        C.finish();
    }

    /** Agents 0 .. n-1, of which agent a goes from host 0 to host 1; their arrivals are under way. */
    private static AgentNet underWay(int n) {
        AgentNet net = new AgentNet();
        Kit.load(net, 0, Kit.PUSH, 1, Kit.GO, Kit.PUSH, 7, Kit.SAY, Kit.PUSH, 0, Kit.GO, Kit.PUSH, 8, Kit.SAY, Kit.END);
        for (int a = 0; a < n; a++) {
            net.launch(0, 0, 60);
        }
        net.step(0, 2);
        Kit.send(net, 0);
        return net;
    }

    private static void deliveredLostDoubled() {
        AgentNet net = underWay(3);
        C.same("doubled", net.net(0, 2), 4);
        C.same("the last one", net.message(3, 1), 0);
        C.same("its image", net.message(3, 5), net.message(0, 5));
        for (int what = 0; what < 10 + net.message(0, 5); what++) {
            C.same("like it", net.message(3, what), net.message(0, what));
        }
        C.same("lost", net.net(1, 1), 3);
        C.same("those behind it come up", net.message(1, 1), 2);
        C.same("it did not arrive", net.slot(1, 1), 0);
        C.same("delivered", net.net(1, 0), 2);
        C.same("it runs", net.slot(1, 2), 1);
        C.same("first", net.message(0, 1), 0);
        C.same("second", net.message(1, 1), 0);
    }

    private static void anyOrder() {
        AgentNet net = underWay(4);
        int[] order = {2, 0, 1, 0};
        int[] agents = {2, 0, 3, 1};
        for (int i = 0; i < 4; i++) {
            C.same("left", net.net(order[i], 0), 3 - i);
            C.same("it runs", net.slot(1, agents[i]), 1);
        }
    }

    private static void atMostTwenty() {
        AgentNet net = underWay(1);
        for (int n = 2; n <= 20; n++) {
            C.same("doubled", net.net(n - 2, 2), n);
        }
        C.illegalState("a twenty-first", () -> net.net(0, 2));
        C.outOfBounds("no such message", () -> net.net(20, 2));
        C.same("lost", net.net(19, 1), 19);
        C.same("doubled again", net.net(18, 2), 20);
        C.same("delivered", net.net(19, 0), 19);
        C.same("it runs", net.slot(1, 0), 1);
    }

    private static void arrivals() {
        AgentNet net = underWay(1);
        net.net(0, 0);
        int[] due = {3, 1, 58, 0, 0, 0, 0};
        for (int what = 0; what < due.length; what++) {
            C.same("agent " + what, net.agent(1, 0, what), due[what]);
        }
        C.same("known", net.host(1, 10), 1);
        C.same("leaving still", net.slot(0, 0), 2);
        C.same("the note is the leaver's", net.host(1, 2), -1);
        C.same("known where it was", net.host(0, 10), 0);
    }

    private static void arrivalsThatAreKnown() {
        AgentNet net = underWay(1);
        net.net(0, 2);
        net.net(0, 2);
        net.net(0, 0);
        net.step(1, 1);
        C.same("the second", net.net(0, 0), 1);
        C.same("it runs as it did", net.agent(1, 0, 0), 5);
        Kit.seal(net, 1);
        C.same("the receipt that was owed", net.net(1, 1), 1);
        net.step(1, 1);
        C.same("the third, known by the sealed copy", net.net(0, 0), 1);
        int[] due = {1, 0, 1, 1, 0, 0, -1};
        for (int what = 0; what < due.length; what++) {
            C.same("receipt " + what, net.message(0, what), due[what]);
        }
        C.same("it runs as it did", net.agent(1, 0, 0), 6);
    }

    private static void arrivalsOverAnySlot() {
        AgentNet net = underWay(1);
        net.net(0, 0);
        net.step(1, 4);
        Kit.send(net, 1);
        net.net(0, 1);
        C.same("leaving there", net.slot(0, 0), 2);
        net.net(0, 0);
        C.same("back, over its leaving", net.slot(0, 0), 1);
        C.same("two hops", net.agent(0, 0, 1), 2);
        C.same("known", net.host(0, 10), 2);
        C.same("the note stays", net.host(0, 2), 1);
        // an arrival of one hop comes late
        C.same("sent again at 1", net.tick(1), 1);
        Kit.seal(net, 0);
        C.same("receipt to 1", net.message(1, 4), 1);
        C.same("for two hops", net.message(1, 2), 2);
    }

    private static void receipts() {
        AgentNet net = underWay(2);
        net.net(0, 0);
        net.net(0, 0);
        Kit.seal(net, 1);
        C.same("two receipts", net.message(1, 0), 1);
        net.net(0, 2);
        net.net(0, 0);
        C.same("empty", net.slot(0, 0), 0);
        C.same("no agent there", net.agent(0, 0, 0), -1);
        C.same("the other one is leaving", net.slot(0, 1), 2);
        C.same("the note stays", net.host(0, 2), 1);
        C.same("known stays", net.host(0, 10), 0);
        C.same("once more", net.net(1, 0), 1);
        C.same("nothing", net.slot(0, 0), 0);
        Kit.restart(net, 0);
        C.same("the sealed copy has it leaving", net.slot(0, 0), 2);
    }

    private static void lateReceipts() {
        AgentNet net = underWay(1);
        net.net(0, 0);
        net.step(1, 4);
        Kit.send(net, 1);
        net.net(1, 0);
        C.same("back", net.slot(0, 0), 1);
        C.same("the receipt for one hop", net.message(0, 2), 1);
        net.net(0, 2);
        net.net(0, 0);
        C.same("it runs still", net.slot(0, 0), 1);
        net.step(0, 9);
        C.same("ended", net.slot(0, 0), 3);
        net.net(0, 0);
        C.same("ended still", net.slot(0, 0), 3);
        AgentNet twice = Kit.launched(100, Kit.PUSH, 1, Kit.GO, Kit.PUSH, 0, Kit.GO, Kit.JUMP, 0);
        twice.step(0, 2);
        Kit.send(twice, 0);
        twice.net(0, 0);
        twice.step(1, 2);
        Kit.send(twice, 1);
        twice.net(1, 0);
        twice.step(0, 3);
        C.same("leaving with three hops", twice.agent(0, 0, 1), 3);
        twice.net(0, 0);
        C.same("a receipt for one changes nothing", twice.slot(0, 0), 2);
    }

    private static void toAHostThatIsDown() {
        AgentNet net = underWay(2);
        net.crash(1);
        C.same("an arrival is lost", net.net(0, 0), 1);
        net.start(1);
        C.same("empty", net.slot(1, 0), 0);
        net.net(0, 0);
        Kit.seal(net, 1);
        net.crash(0);
        C.same("a receipt is lost", net.net(0, 0), 0);
        net.start(0);
        C.same("leaving still", net.slot(0, 1), 2);
        C.same("sent once more", net.tick(0), 2);
        net.crash(1);
        C.same("no receipt from one that is down", net.net(1, 0), 1);
    }

    private static void aReceiptGoesBehindTheRow() {
        AgentNet net = underWay(2);
        net.net(0, 2);
        net.net(0, 0);
        Kit.seal(net, 1);
        net.net(2, 1);
        while (net.message(19, 0) == -1) {
            net.net(0, 2);
        }
        // the arrival of agent 0 that is left is message 1
        C.same("agent", net.message(1, 1), 0);
        C.same("it is out of the row first, so there is room", net.net(1, 0), 20);
        C.same("a receipt", net.message(19, 0), 1);
        C.same("of agent 0", net.message(19, 1), 0);
        C.same("the row came up", net.message(1, 0), 0);
    }

    private static void theImageIsWhatRuns() {
        AgentNet net = Kit.launched(200, Kit.PUSH, 5, Kit.PUSH, 128, Kit.PAIR, Kit.PICK, 0, Kit.PICK, 0, Kit.SET_FIRST,
            Kit.PUSH, 255, Kit.PUSH, 2, Kit.GO, Kit.SAY, Kit.FIRST, Kit.PICK, 0, Kit.FIRST, Kit.SAME, Kit.SAY);
        net.step(0, 40);
        Kit.send(net, 0);
        // the row's place is used by another message before it is delivered
        net.net(0, 2);
        net.net(0, 1);
        net.net(0, 2);
        net.net(0, 0);
        C.same("pairs", net.agent(2, 0, 6), 1);
        C.same("kind 0", net.agent(2, 0, 10), 1);
        C.same("kind 1", net.agent(2, 0, 11), 0);
        net.step(2, 9);
        Kit.seal(net, 2);
        C.same("the int", net.output(0, 0), -1);
        C.same("count", net.outputs(0), net.expected(0));
        C.same("pair and int", net.output(0, 1), net.expectedOutput(0, 1));
    }

    private static void allPartsArrive() {
        // the stack when it goes: -7, p = (1, 2), (3, p); all its parts are said behind the hop
        AgentNet net = Kit.launched(200, Kit.PUSH, 256 - 7, Kit.PUSH, 1, Kit.PUSH, 2, Kit.PAIR, Kit.PUSH, 3, Kit.PICK, 1,
            Kit.PAIR, Kit.PUSH, 1, Kit.GO, Kit.PICK, 0, Kit.SECOND, Kit.PICK, 2, Kit.SAME, Kit.SAY, Kit.PICK, 0,
            Kit.FIRST, Kit.SAY, Kit.SECOND, Kit.SECOND, Kit.SAY, Kit.FIRST, Kit.SAY, Kit.SAY);
        net.step(0, 40);
        Kit.send(net, 0);
        net.net(0, 0);
        net.step(1, 40);
        Kit.seal(net, 1);
        long[] due = {1, 3, 2, 1, -7};
        C.same("outputs", net.outputs(0), due.length);
        for (int i = 0; i < due.length; i++) {
            C.same("part " + i, net.output(0, i), due[i]);
        }
    }

    private static void wrongArguments() {
        AgentNet net = underWay(1);
        C.illegalArgument("action 3", () -> net.net(0, 3));
        C.illegalArgument("action -1", () -> net.net(0, -1));
        C.illegalArgument("action 3 of none", () -> net.net(1, 3));
        for (int action = 0; action < 3; action++) {
            int it = action;
            C.outOfBounds("message 1", () -> net.net(1, it));
            C.outOfBounds("message -1", () -> net.net(-1, it));
            C.outOfBounds("greatest", () -> net.net(Integer.MAX_VALUE, it));
        }
        C.same("nothing changed", net.tick(3), 1);
    }
}
