import java.util.ArrayList;
import java.util.Collections;
import java.util.IdentityHashMap;
import java.util.List;
import java.util.Map;

/**
 * The document told a second time, in another way than the program: values are objects, a pair is
 * itself wherever it lies, copies are made of everything, and pairs are only counted when asked for.
 */
final class Model {
    static final class Pair {
        Object first;
        Object second;
    }

    /** Thrown where an instruction fails. */
    @SuppressWarnings("serial")
    static final class Failure extends RuntimeException {
    }

    static final class Agent {
        int number;
        int program;
        int place;
        int fuel;
        int hops;
        int said;
        int wait;
        boolean cloned;
        List<Object> stack = new ArrayList<>();

        Agent copy() {
            Agent other = new Agent();
            other.number = number;
            other.program = program;
            other.place = place;
            other.fuel = fuel;
            other.hops = hops;
            other.said = said;
            other.wait = wait;
            other.cloned = cloned;
            Map<Pair, Pair> copies = new IdentityHashMap<>();
            for (Object value : stack) {
                other.stack.add(copyOf(value, copies));
            }
            return other;
        }

        private static Object copyOf(Object value, Map<Pair, Pair> copies) {
            if (!(value instanceof Pair)) {
                return value;
            }
            Pair pair = (Pair) value;
            Pair copy = copies.get(pair);
            if (copy == null) {
                copy = new Pair();
                copies.put(pair, copy);
                copy.first = copyOf(pair.first, copies);
                copy.second = copyOf(pair.second, copies);
            }
            return copy;
        }

        List<Pair> pairs() {
            List<Pair> met = new ArrayList<>();
            for (Object value : stack) {
                meet(met, value);
            }
            for (int i = 0; i < met.size(); i++) {
                meet(met, met.get(i).first);
                meet(met, met.get(i).second);
            }
            return met;
        }

        private static void meet(List<Pair> met, Object value) {
            if (value instanceof Pair && numberOf(met, value) < 0) {
                met.add((Pair) value);
            }
        }

        static int numberOf(List<Pair> met, Object value) {
            for (int i = 0; i < met.size(); i++) {
                if (met.get(i) == value) {
                    return i;
                }
            }
            return -1;
        }

        List<Integer> image() {
            List<Integer> bytes = new ArrayList<>();
            Collections.addAll(bytes, number, program, place, hops, said, wait, cloned ? 1 : 0, fuel / 256, fuel % 256);
            List<Pair> met = pairs();
            bytes.add(stack.size());
            for (Object value : stack) {
                write(bytes, met, value);
            }
            bytes.add(met.size());
            for (Pair pair : met) {
                write(bytes, met, pair.first);
                write(bytes, met, pair.second);
            }
            return bytes;
        }

        private static void write(List<Integer> bytes, List<Pair> met, Object value) {
            if (value instanceof Pair) {
                Collections.addAll(bytes, 1, numberOf(met, value));
            } else {
                long unsigned = Integer.toUnsignedLong((Integer) value);
                Collections.addAll(bytes, 0, (int) (unsigned / 16777216), (int) (unsigned / 65536 % 256),
                    (int) (unsigned / 256 % 256), (int) (unsigned % 256));
            }
        }
    }

    static final class Saying {
        final int agent;
        final int index;
        final int value;

        Saying(int agent, int index, int value) {
            this.agent = agent;
            this.index = index;
            this.value = value;
        }
    }

    static final class Memory {
        int[] slots = new int[8];
        Agent[] agents = new Agent[8];
        Integer[] known = new Integer[8];
        Integer[] owes = new Integer[8];
        Integer[] note = new Integer[8];
        List<Saying> said = new ArrayList<>();

        Memory copy() {
            Memory other = new Memory();
            for (int a = 0; a < 8; a++) {
                other.agents[a] = agents[a] == null ? null : agents[a].copy();
            }
            other.slots = slots.clone();
            other.known = known.clone();
            other.owes = owes.clone();
            other.note = note.clone();
            other.said = new ArrayList<>(said);
            return other;
        }
    }

    static final class Host {
        int[] table = new int[8];
        Memory memory = new Memory();
        Memory sealed = new Memory();
        Memory writing;
        int left;

        boolean up() {
            return memory != null;
        }
    }

    static final class Message {
        Agent arrival;
        int agent;
        int hops;
        int from;
        int to;
    }

    final Host[] hosts = new Host[4];
    final List<List<Integer>> programs = new ArrayList<>();
    final List<Message> row = new ArrayList<>();
    final List<List<Integer>> released = new ArrayList<>();
    final List<List<Integer>> expected = new ArrayList<>();
    int launched;

    Model() {
        for (int i = 0; i < 4; i++) {
            hosts[i] = new Host();
            programs.add(new ArrayList<>());
        }
        for (int a = 0; a < 8; a++) {
            released.add(new ArrayList<>());
            expected.add(null);
        }
    }

    int program(int p, long bytes, int n) {
        if (p < 0 || p > 3 || n < 1 || n > 8 || launched > 0 || programs.get(p).size() + n > 48) {
            return -1;
        }
        for (int i = 0; i < n; i++) {
            long shifted = bytes >> (8 * (n - 1 - i));
            programs.get(p).add((int) Math.floorMod(shifted, 256L));
        }
        return programs.get(p).size();
    }

    int table(int h, int k, int v) {
        if (h < 0 || h > 3 || k < 0 || k > 7 || launched > 0) {
            return 0;
        }
        hosts[h].table[k] = v;
        return 1;
    }

    private Host hostUp(int h, boolean argumentsFit) {
        if (h < 0 || h > 3 || !argumentsFit) {
            throw new IllegalArgumentException();
        }
        if (!hosts[h].up()) {
            throw new IllegalStateException();
        }
        return hosts[h];
    }

    int launch(int h, int p, int fuel) {
        Host host = hostUp(h, p >= 0 && p <= 3 && fuel >= 1 && fuel <= 200);
        if (launched == 4) {
            throw new IllegalStateException();
        }
        Agent agent = new Agent();
        agent.number = launched++;
        agent.program = p;
        agent.fuel = fuel;
        runsAt(host.memory, agent, 0);
        alone(agent.copy(), h);
        return agent.number;
    }

    private static void runsAt(Memory memory, Agent agent, int hops) {
        int a = agent.number;
        memory.slots[a] = 1;
        memory.agents[a] = agent;
        memory.known[a] = memory.known[a] == null ? hops : Math.max(hops, memory.known[a]);
    }

    /** The failure-free run: a memory of its own, which is at one host after the other. */
    private void alone(Agent agent, int h) {
        int a = agent.number;
        expected.set(a, new ArrayList<>());
        Memory memory = new Memory();
        runsAt(memory, agent, 0);
        int at = h;
        while (memory.slots[a] == 1 && agent.fuel > 0) {
            perform(memory, agent, at);
            agent.wait = 0;
            if (memory.slots[a] == 2) {
                at = memory.note[a];
                memory.slots[a] = 1;
            }
            if (a < 4 && memory.slots[a + 4] == 1) {
                alone(memory.agents[a + 4].copy(), at);
                memory.slots[a + 4] = 0;
            }
        }
        for (Saying saying : memory.said) {
            expected.get(a).add(saying.value);
        }
    }

    int step(int h, int n) {
        Host host = hostUp(h, n >= 1 && n <= 40);
        int done = 0;
        for (int round = 0; round < n; round++) {
            List<Agent> now = new ArrayList<>();
            for (int a = 0; a < 8; a++) {
                if (host.memory.slots[a] == 1 && host.memory.agents[a].fuel > 0 && host.memory.agents[a].wait == 0) {
                    now.add(host.memory.agents[a]);
                }
            }
            for (Agent agent : now) {
                perform(host.memory, agent, h);
                done++;
            }
        }
        return done;
    }

    /** Does it on a copy, so that a failure leaves nothing but the fuel. */
    private void perform(Memory memory, Agent agent, int h) {
        Agent tried = agent.copy();
        agent.fuel--;
        tried.fuel--;
        int slot;
        try {
            slot = instruction(memory, tried, h);
        } catch (Failure e) {
            memory.slots[agent.number] = 4;
            return;
        }
        agent.place = tried.place;
        agent.fuel = tried.fuel;
        agent.hops = tried.hops;
        agent.said = tried.said;
        agent.wait = tried.wait;
        agent.cloned = tried.cloned;
        agent.stack = tried.stack;
        memory.slots[agent.number] = slot;
    }

    private int next(Agent agent) {
        List<Integer> bytes = programs.get(agent.program);
        need(agent.place < bytes.size());
        return bytes.get(agent.place++);
    }

    private static void need(boolean holds) {
        if (!holds) {
            throw new Failure();
        }
    }

    private static Object take(Agent agent) {
        need(!agent.stack.isEmpty());
        return agent.stack.remove(agent.stack.size() - 1);
    }

    private static int takeInt(Agent agent) {
        Object value = take(agent);
        need(value instanceof Integer);
        return (Integer) value;
    }

    private static Pair takePair(Agent agent) {
        Object value = take(agent);
        need(value instanceof Pair);
        return (Pair) value;
    }

    private static void give(Agent agent, Object value) {
        agent.stack.add(value);
        need(agent.stack.size() <= 6);
    }

    /** The slot that the agent has then. */
    private int instruction(Memory memory, Agent agent, int h) {
        int code = next(agent);
        if (code == 0) {
            return 3;
        } else if (code == 1) {
            int x = next(agent);
            give(agent, x > 127 ? x - 256 : x);
        } else if (code == 2 || code == 3 || code == 4) {
            int b = takeInt(agent);
            int a = takeInt(agent);
            give(agent, code == 2 ? a + b : code == 3 ? a - b : a * b);
        } else if (code == 5) {
            int x = next(agent);
            need(x < agent.stack.size());
            give(agent, agent.stack.get(agent.stack.size() - 1 - x));
        } else if (code == 6) {
            take(agent);
        } else if (code == 7) {
            int x = next(agent);
            need(x <= 7);
            give(agent, hosts[h].table[x]);
        } else if (code == 8) {
            int value = takeInt(agent);
            need(agent.said < 16);
            memory.said.add(new Saying(agent.number, agent.said++, value));
        } else if (code == 9) {
            int to = takeInt(agent);
            need(to >= 0 && to <= 3);
            if (to != h) {
                agent.hops++;
                memory.note[agent.number] = to;
                return 2;
            }
        } else if (code == 10) {
            agent.place = next(agent);
        } else if (code == 11) {
            int x = next(agent);
            if (takeInt(agent) != 0) {
                agent.place = x;
            }
        } else if (code == 12) {
            clone(memory, agent, takeInt(agent));
        } else if (code == 13) {
            int n = takeInt(agent);
            need(n >= 0 && n <= 20);
            agent.wait = n;
        } else if (code >= 14 && code <= 19) {
            pairInstruction(agent, code);
        } else {
            throw new Failure();
        }
        return 1;
    }

    private static void clone(Memory memory, Agent agent, int share) {
        if (agent.number > 3 || agent.cloned || share < 1 || share > agent.fuel) {
            give(agent, -1);
            return;
        }
        Agent child = agent.copy();
        child.number = agent.number + 4;
        child.fuel = share;
        child.hops = 0;
        child.said = 0;
        give(child, 1);
        runsAt(memory, child, 0);
        agent.cloned = true;
        agent.fuel -= share;
        give(agent, 0);
    }

    private static void pairInstruction(Agent agent, int code) {
        Object top = take(agent);
        if (code == 14) {
            Pair pair = new Pair();
            pair.second = top;
            pair.first = take(agent);
            give(agent, pair);
            need(agent.pairs().size() <= 8);
        } else if (code == 15 || code == 16) {
            need(top instanceof Pair);
            give(agent, code == 15 ? ((Pair) top).first : ((Pair) top).second);
        } else if (code == 17) {
            takePair(agent).first = top;
        } else if (code == 18) {
            takePair(agent).second = top;
        } else {
            Object below = take(agent);
            boolean same = top instanceof Pair ? top == below : top.equals(below);
            give(agent, same ? 1 : 0);
        }
    }

    private void send(Message message) {
        if (row.size() < 20) {
            row.add(message);
        }
    }

    private void sendReceipt(int a, int hops, int from, int to) {
        Message message = new Message();
        message.agent = a;
        message.hops = hops;
        message.from = from;
        message.to = to;
        send(message);
    }

    int tick(int h) {
        Host host = hostUp(h, true);
        for (int a = 0; a < 8; a++) {
            Agent agent = host.memory.agents[a];
            if (host.memory.slots[a] == 1 && agent.wait > 0) {
                agent.wait--;
            }
        }
        for (int a = 0; a < 8; a++) {
            Agent agent = host.memory.agents[a];
            if (host.memory.slots[a] == 2 && host.sealed.slots[a] == 2 && host.sealed.agents[a].hops == agent.hops) {
                Message message = new Message();
                message.arrival = agent.copy();
                message.agent = a;
                message.hops = agent.hops;
                message.from = h;
                message.to = host.memory.note[a];
                send(message);
            }
        }
        return row.size();
    }

    int checkpoint(int h) {
        Host host = hostUp(h, true);
        if (host.writing != null) {
            throw new IllegalStateException();
        }
        host.writing = host.memory.copy();
        host.left = 1;
        for (int slot : host.writing.slots) {
            host.left += slot == 0 ? 0 : 1;
        }
        return host.left;
    }

    int write(int h, int n) {
        Host host = hostUp(h, n >= 1);
        if (host.writing == null) {
            throw new IllegalStateException();
        }
        host.left = n >= host.left ? 0 : host.left - n;
        if (host.left == 0) {
            host.sealed = host.writing;
            host.writing = null;
            for (Saying saying : host.sealed.said) {
                List<Integer> row = released.get(saying.agent);
                if (saying.index > row.size()) {
                    throw new AssertionError("an output before it is missing");
                }
                if (saying.index == row.size()) {
                    row.add(saying.value);
                }
            }
            for (int a = 0; a < 8; a++) {
                if (host.sealed.owes[a] != null) {
                    sendReceipt(a, host.sealed.known[a], h, host.sealed.owes[a]);
                    if (host.memory.known[a].equals(host.sealed.known[a])) {
                        host.memory.owes[a] = null;
                    }
                }
            }
        }
        return host.left;
    }

    int crash(int h) {
        if (h < 0 || h > 3) {
            throw new IllegalArgumentException();
        }
        boolean was = hosts[h].up();
        hosts[h].memory = null;
        hosts[h].writing = null;
        hosts[h].left = 0;
        return was ? 1 : 0;
    }

    int start(int h) {
        if (h < 0 || h > 3) {
            throw new IllegalArgumentException();
        }
        if (hosts[h].up()) {
            return 0;
        }
        hosts[h].memory = hosts[h].sealed.copy();
        return 1;
    }

    int net(int k, int action) {
        if (action < 0 || action > 2) {
            throw new IllegalArgumentException();
        }
        if (k < 0 || k >= row.size()) {
            throw new IndexOutOfBoundsException();
        }
        if (action == 2) {
            if (row.size() == 20) {
                throw new IllegalStateException();
            }
            row.add(row.get(k));
        } else {
            Message message = row.remove(k);
            if (action == 0 && hosts[message.to].up()) {
                deliver(message, hosts[message.to]);
            }
        }
        return row.size();
    }

    private void deliver(Message message, Host host) {
        int a = message.agent;
        Memory memory = host.memory;
        if (message.arrival == null) {
            if (memory.slots[a] == 2 && memory.agents[a].hops == message.hops) {
                memory.slots[a] = 0;
            }
        } else if (memory.known[a] == null || message.hops > memory.known[a]) {
            runsAt(memory, message.arrival.copy(), message.hops);
            memory.owes[a] = message.from;
        } else if (host.sealed.known[a] != null && host.sealed.known[a] >= message.hops) {
            sendReceipt(a, message.hops, message.to, message.from);
        }
    }

    int message(int k, int what) {
        if (k < 0 || k >= row.size()) {
            return -1;
        }
        Message message = row.get(k);
        List<Integer> image = message.arrival == null ? new ArrayList<>() : message.arrival.image();
        int[] first = {message.arrival == null ? 1 : 0, message.agent, message.hops, message.from, message.to, image.size()};
        if (what >= 0 && what < 6) {
            return first[what];
        }
        return what >= 10 && what < 10 + image.size() ? image.get(what - 10) : -1;
    }

    int slot(int h, int a) {
        if (h < 0 || h > 3 || a < 0 || a > 7 || !hosts[h].up()) {
            return -1;
        }
        return hosts[h].memory.slots[a];
    }

    int agent(int h, int a, int what) {
        if (slot(h, a) < 1) {
            return -1;
        }
        Agent agent = hosts[h].memory.agents[a];
        int[] first = {agent.place, agent.hops, agent.fuel, agent.said, agent.wait, agent.stack.size(), agent.pairs().size()};
        if (what >= 0 && what < 7) {
            return first[what];
        }
        if (what < 10 || what >= 10 + agent.stack.size()) {
            return -1;
        }
        return agent.stack.get(what - 10) instanceof Pair ? 1 : 0;
    }

    int host(int h, int what) {
        if (h < 0 || h > 3) {
            return -1;
        }
        if (what == 0) {
            return hosts[h].up() ? 1 : 0;
        }
        if (what == 1) {
            return hosts[h].left;
        }
        if (!hosts[h].up() || what < 2 || what > 17) {
            return -1;
        }
        Integer answer = what < 10 ? hosts[h].memory.note[what - 2] : hosts[h].memory.known[what - 10];
        return answer == null ? -1 : answer;
    }

    int sealed(int a) {
        int best = -1;
        int[][] count = new int[128][2];
        for (Host host : hosts) {
            if (a >= 0 && a < 8 && host.sealed.slots[a] != 0) {
                int hops = host.sealed.agents[a].hops;
                best = Math.max(best, hops);
                count[hops][host.sealed.slots[a] == 2 ? 1 : 0]++;
            }
        }
        if (best < 0) {
            return -1;
        }
        return 100 * best + (count[best][0] > 0 ? count[best][0] : count[best][1]);
    }

    int outputs(int a) {
        return a < 0 || a > 7 ? -1 : released.get(a).size();
    }

    long output(int a, int i) {
        return a < 0 || a > 7 || i < 0 || i >= released.get(a).size() ? Kit.NO_OUTPUT : released.get(a).get(i);
    }

    int expected(int a) {
        return a < 0 || a > 7 || expected.get(a) == null ? -1 : expected.get(a).size();
    }

    long expectedOutput(int a, int i) {
        return i < 0 || i >= expected(a) ? Kit.NO_OUTPUT : expected.get(a).get(i);
    }
}
