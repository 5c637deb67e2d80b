/** Promise 4: launch. */
public final class LaunchTest {
    public static void main(String[] args) {
        Check c = new Check("LaunchTest");
        fourInTheirOrder(c);
        asItBegins(c);
        wrongArguments(c);
        wrongStates(c);
        lostLaunchesCount(c);
        c.finish();
    }

    private static void fourInTheirOrder(Check c) {
        AgentNet net = new AgentNet();
        int[] at = {2, 0, 2, 3};
        for (int a = 0; a < 4; a++) {
            c.same("number", net.launch(at[a], 3 - a, 1 + a), a);
            c.same("slot", net.slot(at[a], a), 1);
            c.same("slot elsewhere", net.slot(1, a), 0);
            c.same("known", net.host(at[a], 10 + a), 0);
            c.same("note", net.host(at[a], 2 + a), -1);
        }
        c.illegalState("a fifth", () -> net.launch(0, 0, 1));
    }

    private static void asItBegins(Check c) {
        for (int fuel : new int[] {1, 77, 200}) {
            AgentNet net = Kit.launched(fuel, Kit.PUSH, 7, Kit.SAY);
            int[] due = {0, 0, fuel, 0, 0, 0, 0};
            for (int what = 0; what < due.length; what++) {
                c.same("agent " + what, net.agent(0, 0, what), due[what]);
            }
            c.same("no stack", net.agent(0, 0, 10), -1);
            c.same("instructions", net.step(0, 40), Math.min(fuel, 3));
        }
    }

    private static void wrongArguments(Check c) {
        AgentNet net = new AgentNet();
        c.illegalArgument("host -1", () -> net.launch(-1, 0, 1));
        c.illegalArgument("host 4", () -> net.launch(4, 0, 1));
        c.illegalArgument("program -1", () -> net.launch(0, -1, 1));
        c.illegalArgument("program 4", () -> net.launch(0, 4, 1));
        c.illegalArgument("fuel 0", () -> net.launch(0, 0, 0));
        c.illegalArgument("fuel -1", () -> net.launch(0, 0, -1));
        c.illegalArgument("fuel 201", () -> net.launch(0, 0, 201));
        c.same("slot", net.slot(0, 0), 0);
        c.same("the first one is 0", net.launch(0, 0, 200), 0);
    }

    private static void wrongStates(Check c) {
        AgentNet net = new AgentNet();
        net.crash(1);
        c.illegalState("a host that is down", () -> net.launch(1, 0, 1));
        c.illegalArgument("wrong fuel there", () -> net.launch(1, 0, 0));
        c.same("elsewhere", net.launch(0, 0, 1), 0);
        net.start(1);
        c.same("when it is up", net.launch(1, 0, 1), 1);
        net.launch(1, 0, 1);
        net.launch(1, 0, 1);
        c.illegalArgument("wrong fuel after four", () -> net.launch(1, 0, 201));
        c.illegalState("after four", () -> net.launch(1, 0, 200));
    }

    private static void lostLaunchesCount(Check c) {
        AgentNet net = new AgentNet();
        for (int a = 0; a < 4; a++) {
            c.same("number", net.launch(0, 0, 5), a);
            Kit.restart(net, 0);
            c.same("it is gone", net.slot(0, a), 0);
            c.same("nothing known", net.host(0, 10 + a), -1);
        }
        c.illegalState("there were four", () -> net.launch(0, 0, 5));
    }
}
