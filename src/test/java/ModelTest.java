/** All promises: runs of 512 calls by chance, each answer held against the model's. */
public final class ModelTest {
    private static final Check C = new Check("ModelTest");
    private static final int RUNS = 9000;

    /** Calls that are kept for looking around when all is done. */
    private static final int LOOKS = 160;

    /** How often something happened that the runs must bring about to be worth something. */
    private static int hops, children, released, rings;

    public static void main(String[] args) {
        for (int seed = 0; seed < RUNS; seed++) {
            new ModelTest(seed).run();
        }
        System.out.println("ModelTest: hops " + hops + ", outputs " + released + ", children's " + children + ", rings "
            + rings);
        C.same("agents went to other hosts often", hops > RUNS / 2, true);
        C.same("children were released often", children > RUNS / 20, true);
        C.same("outputs were released often", released > RUNS / 2, true);
        C.same("agents had several pairs often", rings > RUNS / 20, true);
        C.finish();
    }

    private final int seed;
    private final Chance chance;
    private final Both both;
    private final Model model;

    private ModelTest(int seed) {
        this.seed = seed;
        this.chance = new Chance(seed);
        this.both = new Both(C, "run " + seed);
        this.model = both.model;
    }

    private void run() {
        for (int p = 0; p < 4; p++) {
            if (!chance.oneIn(12)) {
                both.load(p, chance.program(), chance);
            }
        }
        for (int i = chance.below(20); i > 0; i--) {
            both.table(chance.from(-1, 4), chance.from(-1, 8), chance.anyInt());
        }
        while (both.callsLeft() > LOOKS) {
            change();
            look();
        }
        count();
        both.lookAround(seed);
    }

    private int anyHost() {
        return chance.oneIn(60) ? chance.from(-1, 4) : chance.below(4);
    }

    /** Mostly one that has an agent, so that agents get on. */
    private int busyHost() {
        int h = anyHost();
        for (int tries = 0; tries < 4; tries++) {
            for (int a = 0; a < 8; a++) {
                if (model.slot(h, a) == 1 || model.slot(h, a) == 2) {
                    return h;
                }
            }
            h = anyHost();
        }
        return h;
    }

    private void change() {
        int h = busyHost();
        int pick = chance.below(100);
        if (pick < 6) {
            int p = chance.oneIn(30) ? chance.from(-1, 4) : chance.below(4);
            both.launch(h, p, chance.oneIn(20) ? chance.from(-1, 202) : chance.from(1, 200));
        } else if (pick < 30) {
            both.step(h, chance.oneIn(40) ? chance.from(-1, 42) : chance.from(1, 12));
        } else if (pick < 44) {
            both.tick(h);
        } else if (pick < 60) {
            both.checkpoint(h);
            if (chance.oneIn(2)) {
                both.write(h, 9);
            }
        } else if (pick < 74) {
            both.write(h, chance.from(chance.oneIn(20) ? -1 : 1, 9));
        } else if (pick < 76) {
            both.crash(h);
        } else if (pick < 80) {
            both.start(anyHost());
        } else {
            int k = chance.oneIn(30) ? chance.from(-1, 21) : chance.below(1 + model.row.size());
            both.deliver(k, chance.oneIn(30) ? chance.from(-1, 3) : chance.oneIn(6) ? 1 : chance.oneIn(4) ? 2 : 0);
        }
    }

    private void look() {
        int h = anyHost();
        int a = chance.oneIn(30) ? chance.from(-2, 9) : chance.below(8);
        switch (chance.below(9)) {
            case 0: {
                int k = chance.below(2 + model.row.size()) - (chance.oneIn(20) ? 2 : 0);
                both.message(k, chance.oneIn(3) ? chance.from(-1, 12) : chance.from(10, 10 + Math.max(1, model.message(k, 5))));
                break;
            }
            case 1: both.slot(h, a); break;
            case 2: both.agent(h, a, chance.from(-1, 17)); break;
            case 3: both.host(h, chance.from(-1, 18)); break;
            case 4: both.sealed(a); break;
            case 5: both.outputs(a); break;
            case 6: both.output(a, chance.from(-1, Math.max(1, model.outputs(a)))); break;
            case 7: both.expected(a); break;
            default: both.expectedOutput(a, chance.from(-1, Math.max(1, model.expected(a)))); break;
        }
    }

    private void count() {
        for (int a = 0; a < 8; a++) {
            released += model.outputs(a);
            children += a > 3 ? model.outputs(a) : 0;
            for (int h = 0; h < 4; h++) {
                hops += Math.max(0, model.host(h, 10 + a));
                rings += model.agent(h, a, 6) > 1 ? 1 : 0;
            }
        }
    }
}
