/** Promises 7 and 8: checkpoint and write. */
public final class CheckpointTest {
    private static final Check C = new Check("CheckpointTest");

    public static void main(String[] args) {
        sectors();
        writing();
        theCopyIsOfItsBeginning();
        releasedUpToTheCheckpoint();
        receiptsAreSent();
        receiptsOfTheCopyAlone();
        receiptsInOrder();
        anAgentThatCameBackIsOwedStill();
        hostsAreApart();
        wrongArguments();
        wrongStates();
        C.finish();
    }

    private static AgentNet withFour(int... bytes) {
        AgentNet net = new AgentNet();
        Kit.load(net, 0, bytes);
        for (int a = 0; a < 4; a++) {
            net.launch(0, 0, 40);
        }
        return net;
    }

    private static void sectors() {
        AgentNet none = new AgentNet();
        C.same("an empty memory", none.checkpoint(0), 1);
        C.same("elsewhere", none.checkpoint(3), 1);
        AgentNet net = withFour(Kit.PUSH, 9, Kit.CLONE, Kit.END);
        C.same("four", net.checkpoint(0), 5);
        net.write(0, 5);
        net.step(0, 2);
        C.same("eight", net.checkpoint(0), 9);
        net.write(0, 9);
        net.step(0, 9);
        C.same("ended ones count", net.checkpoint(0), 9);
    }

    private static void writing() {
        AgentNet net = withFour(Kit.END);
        net.checkpoint(0);
        C.same("left", net.host(0, 1), 5);
        C.same("one", net.write(0, 1), 4);
        C.same("left", net.host(0, 1), 4);
        C.same("two", net.write(0, 2), 2);
        C.same("nothing is sealed", net.sealed(0), -1);
        C.same("more than are left", net.write(0, Integer.MAX_VALUE), 0);
        C.same("sealed", net.sealed(0), 1);
        C.same("none left", net.host(0, 1), 0);
        net.checkpoint(0);
        C.same("just as many", net.write(0, 5), 0);
        C.illegalState("nothing to write", () -> net.write(0, 1));
    }

    private static void theCopyIsOfItsBeginning() {
        AgentNet net = Kit.launched(100, Kit.PUSH, 1, Kit.PUSH, 2, Kit.PAIR, Kit.PICK, 0, Kit.PUSH, 3, Kit.SET_FIRST,
            Kit.FIRST, Kit.SAY);
        net.step(0, 3);
        net.checkpoint(0);
        net.step(0, 4);
        net.write(0, 9);
        C.same("the memory goes on", net.agent(0, 0, 0), 11);
        Kit.restart(net, 0);
        C.same("place", net.agent(0, 0, 0), 5);
        C.same("fuel", net.agent(0, 0, 2), 97);
        C.same("stack", net.agent(0, 0, 5), 1);
        C.same("pair", net.agent(0, 0, 10), 1);
        AgentNet pair = Kit.launched(100, Kit.PUSH, 1, Kit.PUSH, 2, Kit.PAIR, Kit.PICK, 0, Kit.FIRST, Kit.SAY,
            Kit.PICK, 0, Kit.SECOND, Kit.SAY, Kit.PICK, 0, Kit.PUSH, 3, Kit.SET_FIRST, Kit.PICK, 0, Kit.PUSH, 4,
            Kit.SET_SECOND, Kit.JUMP, 5);
        pair.step(0, 3);
        Kit.seal(pair, 0);
        pair.step(0, 12);
        Kit.restart(pair, 0);
        pair.step(0, 20);
        Kit.seal(pair, 0);
        for (int i = 0; i < 4; i++) {
            C.same("the copy's pair was not changed", pair.output(0, i), i + 1);
        }
    }

    private static void releasedUpToTheCheckpoint() {
        AgentNet net = Kit.launched(100, Kit.PUSH, 1, Kit.SAY, Kit.PUSH, 2, Kit.SAY, Kit.PUSH, 3, Kit.SAY);
        net.step(0, 2);
        net.checkpoint(0);
        net.step(0, 2);
        net.write(0, 1);
        C.same("not before all is written", net.outputs(0), 0);
        net.write(0, 1);
        C.same("what was said before it began", net.outputs(0), 1);
        C.same("that", net.output(0, 0), 1);
        C.same("no more", net.output(0, 1), Kit.NO_OUTPUT);
        Kit.seal(net, 0);
        C.same("by the next one", net.outputs(0), 2);
        Kit.seal(net, 0);
        C.same("only once", net.outputs(0), 2);
        C.same("in order", net.output(0, 1), 2);
    }

    /** Agent 0 came from host 0 to host 2, where nothing is sealed yet. */
    private static AgentNet arrived() {
        AgentNet net = Kit.launched(100, Kit.PUSH, 2, Kit.GO, Kit.PUSH, 0, Kit.GO, Kit.PUSH, 2, Kit.GO, Kit.END);
        net.step(0, 2);
        Kit.send(net, 0);
        net.net(0, 0);
        return net;
    }

    private static void receiptsAreSent() {
        AgentNet net = arrived();
        net.checkpoint(2);
        net.write(2, 1);
        C.same("none before all is written", net.message(0, 0), -1);
        net.write(2, 1);
        int[] due = {1, 0, 1, 2, 0, 0};
        for (int what = 0; what < due.length; what++) {
            C.same("receipt " + what, net.message(0, what), due[what]);
        }
        C.same("just one", net.message(1, 0), -1);
        Kit.seal(net, 2);
        C.same("it is owed no more", net.message(1, 0), -1);
        Kit.restart(net, 2);
        Kit.seal(net, 2);
        C.same("nor by what is sealed now", net.message(1, 0), -1);
        AgentNet first = arrived();
        Kit.seal(first, 2);
        Kit.restart(first, 2);
        Kit.seal(first, 2);
        C.same("the sealed copy owed it", first.message(1, 0), 1);
        C.same("with the same hops", first.message(1, 2), 1);
    }

    private static void receiptsOfTheCopyAlone() {
        AgentNet net = Kit.launched(100, Kit.PUSH, 2, Kit.GO, Kit.END);
        net.step(0, 2);
        Kit.send(net, 0);
        net.checkpoint(2);
        net.net(0, 0);
        net.write(2, 9);
        C.same("it came after the beginning", net.message(0, 0), -1);
        C.same("not sealed there", net.sealed(0), 101);
        Kit.seal(net, 2);
        C.same("owed till now", net.message(0, 0), 1);
    }

    private static void receiptsInOrder() {
        AgentNet net = withFour(Kit.PUSH, 3, Kit.GO);
        net.step(0, 2);
        Kit.send(net, 0);
        for (int k = 3; k >= 0; k--) {
            net.net(k, 0);
        }
        Kit.seal(net, 3);
        for (int a = 0; a < 4; a++) {
            C.same("a receipt", net.message(a, 0), 1);
            C.same("from agent 0 on", net.message(a, 1), a);
        }
    }

    private static void anAgentThatCameBackIsOwedStill() {
        AgentNet net = arrived();
        net.step(2, 2);
        Kit.seal(net, 2);
        net.net(0, 1);
        net.tick(2);
        net.net(0, 0);
        C.same("back at 0", net.agent(0, 0, 1), 2);
        net.step(0, 2);
        net.checkpoint(0);
        net.write(0, 9);
        C.same("the receipt for two hops", net.message(0, 2), 2);
        net.tick(0);
        // at host 2 what was sealed, and so the copy that is begun now, owes the receipt for one hop
        Kit.restart(net, 2);
        net.checkpoint(2);
        net.net(1, 0);
        C.same("three hops known", net.host(2, 10), 3);
        net.write(2, 9);
        C.same("the copy's receipt is for one hop", net.message(1, 2), 1);
        Kit.seal(net, 2);
        C.same("the newer one was owed still", net.message(2, 2), 3);
        Kit.seal(net, 2);
        C.same("and no more", net.message(3, 0), -1);
    }

    private static void hostsAreApart() {
        AgentNet net = new AgentNet();
        net.launch(0, 0, 5);
        net.launch(1, 0, 5);
        C.same("host 0", net.checkpoint(0), 2);
        C.same("host 1 at once", net.checkpoint(1), 2);
        net.write(1, 2);
        C.same("host 0 is not sealed", net.sealed(0), -1);
        C.same("host 1 is", net.sealed(1), 1);
        C.same("host 0's sectors", net.host(0, 1), 2);
    }

    private static void wrongArguments() {
        AgentNet net = new AgentNet();
        C.illegalArgument("checkpoint -1", () -> net.checkpoint(-1));
        C.illegalArgument("checkpoint 4", () -> net.checkpoint(4));
        C.illegalArgument("write -1", () -> net.write(-1, 1));
        C.illegalArgument("write 4", () -> net.write(4, 1));
        C.illegalArgument("n 0 when none is written", () -> net.write(0, 0));
        net.checkpoint(0);
        C.illegalArgument("n 0", () -> net.write(0, 0));
        C.illegalArgument("n -1", () -> net.write(0, Integer.MIN_VALUE));
        net.crash(1);
        C.illegalArgument("n 0 when down", () -> net.write(1, 0));
    }

    private static void wrongStates() {
        AgentNet net = withFour(Kit.END);
        C.illegalState("none is written", () -> net.write(0, 1));
        net.checkpoint(0);
        C.illegalState("one is written", () -> net.checkpoint(0));
        C.same("that changed nothing", net.write(0, 1), 4);
        C.illegalState("one is half written", () -> net.checkpoint(0));
        net.write(0, 3);
        C.illegalState("one sector is left", () -> net.checkpoint(0));
        net.crash(0);
        C.illegalState("write when down", () -> net.write(0, 1));
        C.illegalState("checkpoint when down", () -> net.checkpoint(0));
        net.start(0);
        C.illegalState("the copy is gone", () -> net.write(0, 1));
        C.same("a new one", net.checkpoint(0), 1);
    }
}
