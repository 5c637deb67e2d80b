/** All promises: runs of 512 calls by chance, each answer held against the model's. */
public final class ModelTest {
    private static final Check C = new Check("ModelTest");
    private static final int RUNS = 6000;
    private static final int CALLS = 512;

    private interface Answer {
        long get();
    }

    /** How often something happened that the runs must bring about to be worth something. */
    private static int hops, children, released, rings;

    public static void main(String[] args) {
        for (int seed = 0; seed < RUNS; seed++) {
            new ModelTest(seed).run();
        }
        System.out.println("ModelTest: hops " + hops + ", outputs " + released + ", children's " + children + ", rings "
            + rings);
        C.same("agents went to other hosts often", hops > RUNS, true);
        C.same("children were released often", children > RUNS / 10, true);
        C.same("outputs were released often", released > RUNS, true);
        C.same("agents had several pairs often", rings > RUNS / 10, true);
        C.finish();
    }

    private final int seed;
    private final Chance chance;
    private final AgentNet net = new AgentNet();
    private final Model model = new Model();
    private int calls = 0;

    private ModelTest(int seed) {
        this.seed = seed;
        this.chance = new Chance(seed);
    }

    private void run() {
        for (int p = 0; p < 4; p++) {
            if (!chance.oneIn(12)) {
                load(p, chance.program());
            }
        }
        for (int i = chance.below(20); i > 0; i--) {
            int h = chance.from(-1, 4);
            int k = chance.from(-1, 8);
            int v = chance.anyInt();
            same("table " + h + " " + k, () -> net.table(h, k, v) ? 1 : 0, () -> model.table(h, k, v));
        }
        while (calls < CALLS - 60) {
            change();
            look();
            if (chance.oneIn(3)) {
                look();
            }
        }
        sweep();
    }

    private void load(int p, int[] bytes) {
        int at = 0;
        while (at < bytes.length) {
            int n = Math.min(bytes.length - at, chance.from(1, 8));
            long packed = chance.anyInt();
            for (int i = 0; i < n; i++) {
                packed = packed << 8 | bytes[at + i];
            }
            at += n;
            long all = packed;
            same("program " + p, () -> net.program(p, all, n), () -> model.program(p, all, n));
        }
    }

    private int anyHost() {
        return chance.oneIn(60) ? chance.from(-1, 4) : chance.below(4);
    }

    /** Mostly one that has an agent, so that agents get on. */
    private int busyHost() {
        int h = anyHost();
        for (int tries = 0; tries < 4; tries++) {
            for (int a = 0; a < 8; a++) {
                if (model.slot(h, a) == 1 || model.slot(h, a) == 2) {
                    return h;
                }
            }
            h = anyHost();
        }
        return h;
    }

    private void change() {
        int h = busyHost();
        int pick = chance.below(100);
        if (pick < 6) {
            int p = chance.oneIn(30) ? chance.from(-1, 4) : chance.below(4);
            int fuel = chance.oneIn(20) ? chance.from(-1, 202) : chance.from(1, 200);
            same("launch " + h + " " + p + " " + fuel, () -> net.launch(h, p, fuel), () -> model.launch(h, p, fuel));
        } else if (pick < 30) {
            int n = chance.oneIn(40) ? chance.from(-1, 42) : chance.from(1, 12);
            same("step " + h + " " + n, () -> net.step(h, n), () -> model.step(h, n));
        } else if (pick < 44) {
            same("tick " + h, () -> net.tick(h), () -> model.tick(h));
        } else if (pick < 60) {
            same("checkpoint " + h, () -> net.checkpoint(h), () -> model.checkpoint(h));
            if (chance.oneIn(2)) {
                same("write " + h + " 9", () -> net.write(h, 9), () -> model.write(h, 9));
            }
        } else if (pick < 74) {
            int n = chance.from(chance.oneIn(20) ? -1 : 1, 9);
            same("write " + h + " " + n, () -> net.write(h, n), () -> model.write(h, n));
        } else if (pick < 76) {
            same("crash " + h, () -> net.crash(h) ? 1 : 0, () -> model.crash(h));
        } else if (pick < 80) {
            int any = anyHost();
            same("start " + any, () -> net.start(any) ? 1 : 0, () -> model.start(any));
        } else {
            int k = chance.oneIn(30) ? chance.from(-1, 21) : chance.below(1 + model.row.size());
            int action = chance.oneIn(30) ? chance.from(-1, 3) : chance.oneIn(6) ? 1 : chance.oneIn(4) ? 2 : 0;
            same("net " + k + " " + action, () -> net.net(k, action), () -> model.net(k, action));
        }
    }

    private void look() {
        int h = anyHost();
        int a = chance.oneIn(30) ? chance.from(-2, 9) : chance.below(8);
        int pick = chance.below(9);
        if (pick == 0) {
            int k = chance.below(2 + model.row.size()) - (chance.oneIn(20) ? 2 : 0);
            int what = chance.oneIn(3) ? chance.from(-1, 12) : chance.from(10, 10 + Math.max(1, model.message(k, 5)));
            same("message " + k + " " + what, () -> net.message(k, what), () -> model.message(k, what));
        } else if (pick == 1) {
            same("slot " + h + " " + a, () -> net.slot(h, a), () -> model.slot(h, a));
        } else if (pick == 2) {
            int what = chance.from(-1, 17);
            same("agent " + h + " " + a + " " + what, () -> net.agent(h, a, what), () -> model.agent(h, a, what));
        } else if (pick == 3) {
            int what = chance.from(-1, 18);
            same("host " + h + " " + what, () -> net.host(h, what), () -> model.host(h, what));
        } else if (pick == 4) {
            same("sealed " + a, () -> net.sealed(a), () -> model.sealed(a));
        } else if (pick == 5) {
            same("outputs " + a, () -> net.outputs(a), () -> model.outputs(a));
        } else if (pick == 6) {
            int i = chance.from(-1, Math.max(1, model.outputs(a)));
            same("output " + a + " " + i, () -> net.output(a, i), () -> model.output(a, i));
        } else if (pick == 7) {
            same("expected " + a, () -> net.expected(a), () -> model.expected(a));
        } else {
            int i = chance.from(-1, Math.max(1, model.expected(a)));
            same("expectedOutput " + a + " " + i, () -> net.expectedOutput(a, i), () -> model.expectedOutput(a, i));
        }
    }

    /** Everything there is to see; beyond the 512 calls, which the program does not count. */
    private void sweep() {
        for (int a = 0; a < 8; a++) {
            int it = a;
            same("sealed " + a, () -> net.sealed(it), () -> model.sealed(it));
            same("outputs " + a, () -> net.outputs(it), () -> model.outputs(it));
            same("expected " + a, () -> net.expected(it), () -> model.expected(it));
            for (int i = 0; i < 17; i++) {
                int at = i;
                same("output " + a + " " + i, () -> net.output(it, at), () -> model.output(it, at));
                same("expectedOutput " + a + " " + i, () -> net.expectedOutput(it, at), () -> model.expectedOutput(it, at));
            }
            released += model.outputs(a);
            children += a > 3 ? model.outputs(a) : 0;
            for (int h = 0; h < 4; h++) {
                sweepAt(h, a);
            }
        }
        for (int k = 0; k < model.row.size(); k++) {
            for (int what = 0; what < 132; what++) {
                int at = k;
                int it = what;
                same("message " + k + " " + what, () -> net.message(at, it), () -> model.message(at, it));
            }
        }
    }

    private void sweepAt(int h, int a) {
        same("slot", () -> net.slot(h, a), () -> model.slot(h, a));
        for (int what = 0; what < 17; what++) {
            int it = what;
            same("agent " + h + " " + a + " " + what, () -> net.agent(h, a, it), () -> model.agent(h, a, it));
        }
        same("note " + h + " " + a, () -> net.host(h, 2 + a), () -> model.host(h, 2 + a));
        same("known " + h + " " + a, () -> net.host(h, 10 + a), () -> model.host(h, 10 + a));
        same("sectors " + h, () -> net.host(h, 1), () -> model.host(h, 1));
        hops += Math.max(0, model.host(h, 10 + a));
        rings += model.agent(h, a, 6) > 1 ? 1 : 0;
    }

    private static long answerOf(Answer answer) {
        try {
            return answer.get();
        } catch (IllegalArgumentException e) {
            return Long.MIN_VALUE + 1;
        } catch (IndexOutOfBoundsException e) {
            return e.getClass() == IndexOutOfBoundsException.class ? Long.MIN_VALUE + 2 : Long.MIN_VALUE + 9;
        } catch (IllegalStateException e) {
            return Long.MIN_VALUE + 3;
        }
    }

    private void same(String call, Answer got, Answer due) {
        calls++;
        C.same("run " + seed + ", call " + calls + ": " + call, answerOf(got), answerOf(due));
    }
}
