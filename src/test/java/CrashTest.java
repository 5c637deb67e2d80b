/** Promises 9 and 10: crash and start. */
public final class CrashTest {
    private static final Check C = new Check("CrashTest");

    public static void main(String[] args) {
        upAndDown();
        theMemoryIsGone();
        theSealedCopyComesBack();
        anUnsealedCopyIsGone();
        allOfAMemoryComesBack();
        saidAgainIsReleasedOnce();
        wrongArguments();
        C.finish();
    }

    private static void upAndDown() {
        AgentNet net = new AgentNet();
        for (int h = 0; h < 4; h++) {
            C.same("start of one that is up", net.start(h), false);
            C.same("crash", net.crash(h), true);
            C.same("down", net.host(h, 0), 0);
            C.same("crash of one that is down", net.crash(h), false);
            for (int other = 0; other < 4; other++) {
                C.same("the others", net.host(other, 0), other == h ? 0 : 1);
            }
            C.same("start", net.start(h), true);
            C.same("up", net.host(h, 0), 1);
            C.same("start again", net.start(h), false);
        }
    }

    private static void theMemoryIsGone() {
        AgentNet net = Kit.stepped(1, Kit.PUSH, 1, Kit.GO);
        Kit.seal(net, 0);
        net.crash(0);
        C.same("slot", net.slot(0, 0), -1);
        C.same("agent", net.agent(0, 0, 0), -1);
        C.same("known", net.host(0, 10), -1);
        C.same("sectors", net.host(0, 1), 0);
        C.same("sealed all the same", net.sealed(0), 1);
        AgentNet unsealed = Kit.stepped(2, Kit.PUSH, 1, Kit.GO);
        Kit.restart(unsealed, 0);
        C.same("empty", unsealed.slot(0, 0), 0);
        C.same("nothing known", unsealed.host(0, 10), -1);
        C.same("no note", unsealed.host(0, 2), -1);
    }

    private static void theSealedCopyComesBack() {
        AgentNet net = Kit.stepped(1, Kit.PUSH, 1, Kit.PUSH, 2, Kit.ADD, Kit.SAY);
        Kit.seal(net, 0);
        net.step(0, 2);
        for (int times = 0; times < 2; times++) {
            Kit.restart(net, 0);
            int[] due = {2, 0, 199, 0, 0, 1, 0};
            for (int what = 0; what < due.length; what++) {
                C.same("agent " + what, net.agent(0, 0, what), due[what]);
            }
            net.step(0, 3);
        }
        Kit.seal(net, 0);
        C.same("said", net.output(0, 0), 3);
    }

    private static void anUnsealedCopyIsGone() {
        AgentNet net = Kit.launched(100, Kit.PUSH, 1, Kit.SAY, Kit.END);
        net.checkpoint(0);
        net.write(0, 1);
        net.crash(0);
        C.same("sectors when down", net.host(0, 1), 0);
        net.start(0);
        C.same("empty", net.slot(0, 0), 0);
        C.same("sectors", net.host(0, 1), 0);
        C.same("not sealed", net.sealed(0), -1);
        net.launch(0, 0, 100);
        Kit.seal(net, 0);
        net.step(0, 2);
        net.checkpoint(0);
        net.write(0, 1);
        Kit.restart(net, 0);
        C.same("the older one is there", net.agent(0, 1, 0), 0);
        C.same("nothing is released", net.outputs(1), 0);
    }

    private static void allOfAMemoryComesBack() {
        AgentNet net = Kit.launched(100, Kit.PUSH, 1, Kit.GO, Kit.PUSH, 0, Kit.GO, Kit.PUSH, 5, Kit.WAIT, Kit.END);
        net.step(0, 2);
        Kit.send(net, 0);
        net.net(0, 0);
        net.step(1, 2);
        Kit.send(net, 1);
        net.net(1, 0);
        net.step(0, 2);
        C.same("it waits", net.agent(0, 0, 4), 5);
        Kit.seal(net, 0);
        net.tick(0);
        Kit.restart(net, 0);
        Kit.restart(net, 1);
        C.same("note at 0", net.host(0, 2), 1);
        C.same("known at 0", net.host(0, 10), 2);
        C.same("ticks to wait", net.agent(0, 0, 4), 5);
        C.same("slot at 1", net.slot(1, 0), 2);
        C.same("note at 1", net.host(1, 2), 0);
        C.same("known at 1", net.host(1, 10), 1);
        C.same("hops at 1", net.agent(1, 0, 1), 2);
        C.same("it is sent again", net.tick(1), 3);
        AgentNet clones = Kit.launched(50, Kit.PUSH, 9, Kit.CLONE, Kit.SAY);
        Kit.seal(clones, 0);
        clones.step(0, 3);
        Kit.restart(clones, 0);
        C.same("no child yet", clones.slot(0, 4), 0);
        clones.step(0, 3);
        C.same("it had not cloned", clones.slot(0, 4), 1);
        Kit.seal(clones, 0);
        Kit.restart(clones, 0);
        C.same("the child comes back", clones.agent(0, 4, 2), 8);
    }

    private static void saidAgainIsReleasedOnce() {
        AgentNet net = Kit.launched(100, Kit.PUSH, 1, Kit.SAY, Kit.PUSH, 2, Kit.SAY, Kit.PUSH, 3, Kit.SAY);
        net.step(0, 2);
        Kit.seal(net, 0);
        net.step(0, 2);
        Kit.restart(net, 0);
        C.same("one is said", net.agent(0, 0, 3), 1);
        C.same("one is released", net.outputs(0), 1);
        net.step(0, 4);
        Kit.seal(net, 0);
        C.same("each once", net.outputs(0), 3);
        for (int i = 0; i < 3; i++) {
            C.same("in order", net.output(0, i), i + 1);
        }
    }

    private static void wrongArguments() {
        AgentNet net = new AgentNet();
        C.illegalArgument("crash -1", () -> net.crash(-1));
        C.illegalArgument("crash 4", () -> net.crash(4));
        C.illegalArgument("start -1", () -> net.start(-1));
        C.illegalArgument("start 4", () -> net.start(4));
    }
}
