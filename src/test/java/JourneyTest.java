/**
 * Agents that go round and round among few hosts, while hosts crash and messages are lost, doubled and
 * late: what is known, owed, noted and sealed is held against the model after each change.
 */
public final class JourneyTest {
    private static final Check C = new Check("JourneyTest");
    private static final int RUNS = 6000;

    /** Calls that are kept for looking around when all is done. */
    private static final int LOOKS = 60;

    /** How often something happened that the runs must bring about to be worth something. */
    private static int cameBack, againOwed, lateOnes, full;

    public static void main(String[] args) {
        for (int seed = 0; seed < RUNS; seed++) {
            new JourneyTest(seed).run();
        }
        System.out.println("JourneyTest: came back " + cameBack + ", owed to another then " + againOwed + ", late arrivals "
            + lateOnes + ", full rows " + full);
        C.same("agents came back often", cameBack > RUNS, true);
        C.same("agents came though a receipt was owed to another host", againOwed > RUNS / 10, true);
        C.same("arrivals were late often", lateOnes > RUNS / 10, true);
        C.same("the row was full often", full > RUNS / 10, true);
        C.finish();
    }

    private final int seed;
    private final Chance chance;
    private final Both both;
    private final Model model;
    private final int hosts;
    private final int agents;

    private JourneyTest(int seed) {
        this.seed = seed;
        this.chance = new Chance(seed);
        this.both = new Both(C, "journey " + seed);
        this.model = both.model;
        this.hosts = chance.from(2, 4);
        this.agents = chance.from(1, 2);
    }

    private void run() {
        for (int a = 0; a < agents; a++) {
            both.load(a, round(), chance);
        }
        for (int a = 0; a < agents; a++) {
            both.launch(chance.below(hosts), a, 200);
        }
        while (both.callsLeft() > LOOKS) {
            change();
            if (chance.oneIn(2)) {
                look();
            }
        }
        both.lookAround(seed);
    }

    /** A program that goes from host to host for ever, and now and then says something or clones. */
    private int[] round() {
        int[] bytes = new int[chance.from(4, 10) * 3 + 2];
        int at = 0;
        if (chance.oneIn(3)) {
            System.arraycopy(new int[] {Kit.PUSH, 90, Kit.CLONE, Kit.DROP}, 0, bytes, 0, 4);
            at = 4;
        }
        int begin = at;
        while (at + 5 <= bytes.length) {
            bytes[at] = Kit.PUSH;
            bytes[at + 1] = chance.below(hosts);
            bytes[at + 2] = chance.oneIn(9) ? Kit.SAY : Kit.GO;
            at += 3;
        }
        bytes[at] = Kit.JUMP;
        bytes[at + 1] = begin;
        return java.util.Arrays.copyOf(bytes, at + 2);
    }

    /** One thing that gets an agent on, or one that makes trouble. */
    private void change() {
        int pick = chance.below(20);
        if (pick < 12) {
            getOn(chance.below(2) * 4 + chance.below(agents));
        } else if (pick < 14) {
            int h = chance.below(hosts);
            both.crash(h);
            if (!chance.oneIn(4)) {
                both.start(h);
            }
        } else if (pick < 15) {
            seal(chance.below(hosts));
        } else if (!model.row.isEmpty()) {
            int k = chance.below(model.row.size());
            message(k, model.row.size() > 12 ? chance.below(2) : chance.oneIn(7) ? 1 : chance.oneIn(2) ? 2 : 0);
        }
    }

    /** What the agent lacks where it has come farthest: a start, a message, sectors, a tick or rounds. */
    private void getOn(int a) {
        int h = farthest(a);
        if (h < 0) {
            both.start(chance.below(hosts));
        } else if (model.slot(h, a) == 1) {
            both.step(h, chance.from(1, 4));
        } else if (model.slot(h, a) != 2) {
            both.tick(h);
        } else if (model.hosts[h].sealed.slots[a] != 2) {
            seal(h);
        } else if (arrivalOf(a) >= 0 && !chance.oneIn(8)) {
            message(arrivalOf(a), chance.oneIn(4) ? 2 : 0);
        } else if (model.hosts[h].writing == null && chance.oneIn(3)) {
            seal(h);
        } else {
            both.tick(h);
        }
    }

    private int farthest(int a) {
        int best = -1;
        for (int h = 0; h < hosts; h++) {
            boolean here = model.slot(h, a) > 0;
            int hops = here ? 2 * model.agent(h, a, 1) + (model.slot(h, a) == 2 ? 0 : 1) : -1;
            int most = best < 0 ? -1 : 2 * model.agent(best, a, 1) + (model.slot(best, a) == 2 ? 0 : 1);
            best = here && hops > most ? h : best;
        }
        return best;
    }

    /** The arrival with the most hops, the last of them. */
    private int arrivalOf(int a) {
        int best = -1;
        for (int k = 0; k < model.row.size(); k++) {
            Model.Message message = model.row.get(k);
            if (message.agent == a && message.arrival != null && (best < 0 || message.hops >= model.row.get(best).hops)) {
                best = k;
            }
        }
        return best;
    }

    private void seal(int h) {
        if (model.hosts[h].writing == null) {
            both.checkpoint(h);
        }
        if (!chance.oneIn(4)) {
            both.write(h, chance.oneIn(4) ? 1 : 9);
        }
    }

    private void message(int k, int action) {
        Model.Message message = model.row.get(k);
        Model.Host host = model.hosts[message.to];
        if (action == 0 && message.arrival != null && host.up()) {
            Integer known = host.memory.known[message.agent];
            Integer owes = host.memory.owes[message.agent];
            boolean comes = known == null || known < message.hops;
            cameBack += comes && known != null ? 1 : 0;
            againOwed += comes && owes != null && owes != message.from ? 1 : 0;
            lateOnes += known != null && known > message.hops ? 1 : 0;
        }
        full += model.row.size() == 20 ? 1 : 0;
        both.deliver(k, action);
    }

    private void look() {
        int h = chance.below(hosts);
        int a = chance.below(2) * 4 + chance.below(agents);
        switch (chance.below(8)) {
            case 0: both.slot(h, a); break;
            case 1: both.agent(h, a, chance.below(7)); break;
            case 2: both.host(h, chance.below(18)); break;
            case 3: both.sealed(a); break;
            case 4: both.outputs(a); break;
            default: both.message(model.row.size() - 1 - chance.below(3), chance.below(6)); break;
        }
    }
}
