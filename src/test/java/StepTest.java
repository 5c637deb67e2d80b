/** Promise 5: step, its rounds and its exceptions; InstructionTest has the instructions. */
public final class StepTest {
    public static void main(String[] args) {
        Check c = new Check("StepTest");
        roundByRound(c);
        edgesOfN(c);
        fuelEnds(c);
        waitingOnesDoNothing(c);
        aChildWaitsForTheNextRound(c);
        onlyAtThisHost(c);
        wrongArguments(c);
        c.finish();
    }

    private static void roundByRound(Check c) {
        AgentNet net = new AgentNet();
        Kit.load(net, 0, Kit.PUSH, 1, Kit.PUSH, 2, Kit.ADD, Kit.END);
        Kit.load(net, 1, 99);
        Kit.load(net, 2, Kit.PUSH, 1, Kit.GO);
        net.launch(0, 0, 50);
        net.launch(0, 1, 50);
        net.launch(0, 2, 50);
        c.same("all three, one fails", net.step(0, 1), 3);
        c.same("failed", net.slot(0, 1), 4);
        c.same("two are left, one goes", net.step(0, 1), 2);
        c.same("leaving", net.slot(0, 2), 2);
        c.same("one is left", net.step(0, 1), 1);
        c.same("its end, then nothing", net.step(0, 9), 1);
        c.same("ended", net.slot(0, 0), 3);
        c.same("nobody runs", net.step(0, 40), 0);
    }

    private static void edgesOfN(Check c) {
        AgentNet net = Kit.launched(200, Kit.JUMP, 0);
        c.same("n 1", net.step(0, 1), 1);
        c.same("n 40", net.step(0, 40), 40);
        c.same("fuel", net.agent(0, 0, 2), 159);
        c.illegalArgument("n 0", () -> net.step(0, 0));
        c.illegalArgument("n 41", () -> net.step(0, 41));
        c.illegalArgument("n -1", () -> net.step(0, -1));
        c.illegalArgument("greatest n", () -> net.step(0, Integer.MAX_VALUE));
        c.same("nothing was done", net.agent(0, 0, 2), 159);
    }

    private static void fuelEnds(Check c) {
        AgentNet net = Kit.launched(3, Kit.JUMP, 0);
        c.same("three", net.step(0, 40), 3);
        c.same("no fuel", net.agent(0, 0, 2), 0);
        c.same("it runs still", net.slot(0, 0), 1);
        c.same("it does nothing", net.step(0, 1), 0);
        AgentNet failing = Kit.launched(1, 20);
        c.same("a failure costs", failing.step(0, 40), 1);
        c.same("its fuel is taken", failing.agent(0, 0, 2), 0);
        c.same("it failed", failing.slot(0, 0), 4);
    }

    private static void waitingOnesDoNothing(Check c) {
        AgentNet net = new AgentNet();
        Kit.load(net, 0, Kit.PUSH, 2, Kit.WAIT, Kit.JUMP, 3);
        Kit.load(net, 1, Kit.JUMP, 0);
        net.launch(0, 0, 100);
        net.launch(0, 1, 100);
        c.same("until it waits", net.step(0, 2), 4);
        c.same("the other one goes on", net.step(0, 3), 3);
        net.tick(0);
        c.same("one tick more to wait", net.step(0, 1), 1);
        net.tick(0);
        c.same("both", net.step(0, 1), 2);
    }

    private static void aChildWaitsForTheNextRound(Check c) {
        AgentNet net = new AgentNet();
        Kit.load(net, 0, Kit.PUSH, 10, Kit.CLONE, Kit.JUMP, 3);
        net.launch(1, 0, 50);
        c.same("until it cloned", net.step(1, 2), 2);
        c.same("the child runs", net.slot(1, 4), 1);
        c.same("all its fuel is there", net.agent(1, 4, 2), 10);
        c.same("both", net.step(1, 1), 2);
        AgentNet atOnce = new AgentNet();
        Kit.load(atOnce, 0, Kit.PUSH, 10, Kit.CLONE, Kit.JUMP, 3);
        atOnce.launch(1, 0, 50);
        c.same("in one call", atOnce.step(1, 3), 4);
    }

    private static void onlyAtThisHost(Check c) {
        AgentNet net = new AgentNet();
        Kit.load(net, 0, Kit.JUMP, 0);
        net.launch(0, 0, 10);
        net.launch(3, 0, 10);
        c.same("host 0", net.step(0, 2), 2);
        c.same("host 1", net.step(1, 2), 0);
        c.same("the other's fuel", net.agent(3, 1, 2), 10);
        c.same("host 3", net.step(3, 40), 10);
    }

    private static void wrongArguments(Check c) {
        AgentNet net = new AgentNet();
        c.illegalArgument("host -1", () -> net.step(-1, 1));
        c.illegalArgument("host 4", () -> net.step(4, 1));
        net.crash(2);
        c.illegalState("down", () -> net.step(2, 1));
        c.illegalState("down, n 40", () -> net.step(2, 40));
        c.illegalArgument("down, n 0", () -> net.step(2, 0));
        net.start(2);
        c.same("up again", net.step(2, 1), 0);
    }
}
