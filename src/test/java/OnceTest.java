/**
 * What the document is about (promises 5 to 11 and 16 to 20 together): whatever fails, each agent is
 * sealed in one place, and what it says is released once, in its order, as in the failure-free run.
 */
public final class OnceTest {
    private static final Check C = new Check("OnceTest");
    private static final int RUNS = 2000;

    public static void main(String[] args) {
        int whole = 0;
        for (int seed = 0; seed < RUNS; seed++) {
            whole += new OnceTest(seed).run();
        }
        C.same("most runs say something", whole > RUNS / 3, true);
        C.finish();
    }

    private final int seed;
    private final Chance chance;
    private final AgentNet net = new AgentNet();

    private OnceTest(int seed) {
        this.seed = seed;
        this.chance = new Chance(1_000_000 + seed);
    }

    /** How many outputs there were, at most 1. */
    private int run() {
        for (int p = 0; p < 4; p++) {
            Kit.load(net, p, chance.program());
            for (int k = 0; k < 8; k++) {
                net.table(p, k, chance.anyInt());
            }
        }
        // a launch that is not sealed may be lost for good, so each one is sealed at once
        for (int a = 0; a < 4; a++) {
            int h = chance.below(4);
            net.launch(h, chance.below(4), chance.from(1, 200));
            Kit.seal(net, h);
        }
        for (int i = 0; i < 400; i++) {
            fault();
            lookAtAll();
        }
        heal();
        lookAtAll();
        int said = 0;
        for (int a = 0; a < 8; a++) {
            C.same("run " + seed + ": outputs of " + a, net.outputs(a), Math.max(0, net.expected(a)));
            said += net.outputs(a);
        }
        return Math.min(1, said);
    }

    private void fault() {
        int h = chance.below(4);
        int pick = chance.below(20);
        if (pick == 0) {
            net.crash(h);
        } else if (pick <= 2) {
            net.start(h);
        } else if (pick <= 7 && net.message(0, 0) != AgentNet.NONE) {
            int k = 0;
            while (chance.oneIn(2) && net.message(k + 1, 0) != AgentNet.NONE) {
                k++;
            }
            int action = chance.oneIn(3) ? chance.from(1, 2) : 0;
            if (action != 2 || net.message(19, 0) == AgentNet.NONE) {
                net.net(k, action);
            }
        } else if (net.host(h, 0) == 1) {
            work(h, pick);
        }
    }

    private void work(int h, int pick) {
        if (pick <= 12) {
            net.step(h, chance.from(1, 8));
        } else if (pick <= 15) {
            net.tick(h);
        } else if (net.host(h, 1) == 0) {
            net.checkpoint(h);
        } else {
            net.write(h, chance.from(1, 4));
        }
    }

    /** Nothing fails any more, until all has come to rest. */
    private void heal() {
        for (int rounds = 0; rounds < 400; rounds++) {
            for (int h = 0; h < 4; h++) {
                net.start(h);
                net.step(h, 5);
                net.tick(h);
                if (net.host(h, 1) == 0) {
                    net.checkpoint(h);
                }
                net.write(h, 9);
            }
            while (net.message(0, 0) != AgentNet.NONE) {
                net.net(0, 0);
            }
        }
    }

    private void lookAtAll() {
        for (int a = 0; a < 8; a++) {
            int sealed = net.sealed(a);
            C.same("run " + seed + ": places of " + a, sealed == AgentNet.NONE || sealed % 100 == 1, true);
            int outputs = net.outputs(a);
            if (outputs > Math.max(0, net.expected(a))) {
                C.report("run " + seed + ": too many outputs of " + a);
            }
            for (int i = 0; i < outputs; i++) {
                C.same("run " + seed + ": output " + i + " of " + a, net.output(a, i), net.expectedOutput(a, i));
            }
        }
    }
}
