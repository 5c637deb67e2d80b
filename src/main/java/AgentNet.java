import java.util.Arrays;

/**
 * A network of hosts that run agents: small programs that go from host to host with their stack
 * and their pairs, packed into bytes. Every row is made by the constructor and used again, so that
 * no later call makes an object.
 */
public final class AgentNet {

    public static final int NONE = -1;

    private static final int HOSTS = 4;
    private static final int ENTRIES = 8;
    private static final int PROGRAMS = 4;
    private static final int PROGRAM_BYTES = 48;
    private static final int LONG_BYTES = 8;
    private static final int LAUNCHES = 4;
    private static final int AGENTS = 8;
    private static final int MAX_FUEL = 200;
    private static final int MAX_ROUNDS = 40;
    private static final int MAX_WAIT = 20;
    private static final int STACK = 6;
    private static final int PAIRS = 8;
    private static final int OUTPUTS = 16;
    private static final int MESSAGES = 20;
    private static final int IMAGE_BYTES = 9 + 1 + 5 * STACK + 1 + 10 * PAIRS;
    private static final long NO_OUTPUT = 1L << 40;

    private static final int EMPTY = 0;
    private static final int RUNS = 1;
    private static final int LEAVING = 2;
    private static final int ENDED = 3;
    private static final int FAILED = 4;

    private static final int DELIVER = 0;
    private static final int LOSE = 1;
    private static final int DOUBLE = 2;

    /** What an instruction asks of the one who runs the agent. */
    private static final int ASKS_NOTHING = 0;
    private static final int ASKS_SAY = 1;
    private static final int ASKS_GO = 2;
    private static final int ASKS_CLONE = 3;
    private static final int ASKS_END = 4;
    private static final int ASKS_FAIL = 5;

    /** A value is a long: an int is itself, a pair is this and its number, beyond every int. */
    private static final long PAIR = 1L << 40;

    private final Script[] scripts = new Script[PROGRAMS];
    private final int[][] tables = new int[HOSTS][ENTRIES];
    private final Site[] sites = new Site[HOSTS];
    private final Wire wire = new Wire();
    private final Processor processor = new Processor();
    private final Sayings released = new Sayings();
    private final FreeRun freeRun = new FreeRun();
    private int launched = 0;

    public AgentNet() {
        for (int p = 0; p < PROGRAMS; p++) {
            scripts[p] = new Script();
        }
        for (int h = 0; h < HOSTS; h++) {
            sites[h] = new Site(h);
        }
    }

    public int program(int p, long bytes, int n) {
        if (!isProgram(p) || n < 1 || n > LONG_BYTES || launched > 0) {
            return NONE;
        }
        return scripts[p].append(bytes, n);
    }

    public boolean table(int h, int k, int v) {
        if (!isHost(h) || k < 0 || k >= ENTRIES || launched > 0) {
            return false;
        }
        tables[h][k] = v;
        return true;
    }

    public int launch(int h, int p, int fuel) throws IllegalArgumentException, IllegalStateException {
        if (!isHost(h) || !isProgram(p) || fuel < 1 || fuel > MAX_FUEL) {
            throw new IllegalArgumentException();
        }
        if (!sites[h].up || launched >= LAUNCHES) {
            throw new IllegalStateException();
        }
        int a = launched;
        launched++;
        Memory memory = sites[h].memory;
        memory.travellers[a].begin(a, p, fuel);
        memory.settle(a, 0);
        freeRun.follow(memory.travellers[a], h, processor, scripts, tables);
        return a;
    }

    public int step(int h, int n) throws IllegalArgumentException, IllegalStateException {
        if (!isHost(h) || n < 1 || n > MAX_ROUNDS) {
            throw new IllegalArgumentException();
        }
        if (!sites[h].up) {
            throw new IllegalStateException();
        }
        int done = 0;
        for (int i = 0; i < n; i++) {
            done += round(h);
        }
        return done;
    }

    public int tick(int h) throws IllegalArgumentException, IllegalStateException {
        if (!isHost(h)) {
            throw new IllegalArgumentException();
        }
        if (!sites[h].up) {
            throw new IllegalStateException();
        }
        sites[h].memory.passTime();
        sites[h].sendArrivals(wire);
        return wire.count;
    }

    public int checkpoint(int h) throws IllegalArgumentException, IllegalStateException {
        if (!isHost(h)) {
            throw new IllegalArgumentException();
        }
        if (!sites[h].up || sites[h].sectorsLeft > 0) {
            throw new IllegalStateException();
        }
        return sites[h].beginCopy();
    }

    public int write(int h, int n) throws IllegalArgumentException, IllegalStateException {
        if (!isHost(h) || n < 1) {
            throw new IllegalArgumentException();
        }
        Site site = sites[h];
        if (!site.up || site.sectorsLeft == 0) {
            throw new IllegalStateException();
        }
        site.sectorsLeft -= Math.min(n, site.sectorsLeft);
        if (site.sectorsLeft == 0) {
            site.seal(released, wire);
        }
        return site.sectorsLeft;
    }

    public boolean crash(int h) throws IllegalArgumentException {
        if (!isHost(h)) {
            throw new IllegalArgumentException();
        }
        if (!sites[h].up) {
            return false;
        }
        sites[h].goDown();
        return true;
    }

    public boolean start(int h) throws IllegalArgumentException {
        if (!isHost(h)) {
            throw new IllegalArgumentException();
        }
        if (sites[h].up) {
            return false;
        }
        sites[h].comeUp();
        return true;
    }

    public int net(int k, int action)
            throws IllegalArgumentException, IndexOutOfBoundsException, IllegalStateException {
        if (action != DELIVER && action != LOSE && action != DOUBLE) {
            throw new IllegalArgumentException();
        }
        if (!wire.has(k)) {
            throw new IndexOutOfBoundsException();
        }
        if (action == DOUBLE && wire.isFull()) {
            throw new IllegalStateException();
        }
        if (action == DOUBLE) {
            wire.repeat(k);
        } else {
            Message m = wire.remove(k);
            if (action == DELIVER) {
                sites[m.to].receive(m, wire);
            }
        }
        return wire.count;
    }

    public int message(int k, int what) {
        return wire.has(k) ? wire.row[k].tell(what) : NONE;
    }

    public int slot(int h, int a) {
        if (!isHost(h) || !isAgent(a) || !sites[h].up) {
            return NONE;
        }
        return sites[h].memory.slots[a];
    }

    public int agent(int h, int a, int what) {
        if (!isHost(h) || !isAgent(a) || !sites[h].up || sites[h].memory.slots[a] == EMPTY) {
            return NONE;
        }
        return sites[h].memory.travellers[a].tell(what);
    }

    public int host(int h, int what) {
        return isHost(h) ? sites[h].tell(what) : NONE;
    }

    public int sealed(int a) {
        if (!isAgent(a)) {
            return NONE;
        }
        int hops = NONE;
        for (int h = 0; h < HOSTS; h++) {
            hops = Math.max(hops, sites[h].sealedCopy.hopsOf(a));
        }
        if (hops == NONE) {
            return NONE;
        }
        int leaving = 0;
        int staying = 0;
        for (int h = 0; h < HOSTS; h++) {
            Memory copy = sites[h].sealedCopy;
            if (copy.hopsOf(a) == hops) {
                leaving += copy.slots[a] == LEAVING ? 1 : 0;
                staying += copy.slots[a] == LEAVING ? 0 : 1;
            }
        }
        return 100 * hops + (staying > 0 ? staying : leaving);
    }

    public int outputs(int a) {
        return isAgent(a) ? released.count(a) : NONE;
    }

    public long output(int a, int i) {
        return released.valueOf(a, i);
    }

    public int expected(int a) {
        return isAgent(a) && freeRun.met[a] ? freeRun.sayings.count(a) : NONE;
    }

    public long expectedOutput(int a, int i) {
        return freeRun.sayings.valueOf(a, i);
    }

    private int round(int h) {
        Memory memory = sites[h].memory;
        // who runs is asked once: a child that is cloned in the round has no turn in it
        int turns = memory.running();
        int done = 0;
        for (int a = 0; a < AGENTS; a++) {
            Traveller t = memory.travellers[a];
            if ((turns >> a & 1) == 0 || t.fuel == 0 || t.wait > 0) {
                continue;
            }
            int asks = processor.perform(t, scripts[t.script], tables[h], h);
            memory.grant(a, asks, processor.asked);
            done++;
        }
        return done;
    }

    private static boolean isHost(int h) {
        return h >= 0 && h < HOSTS;
    }

    private static boolean isProgram(int p) {
        return p >= 0 && p < PROGRAMS;
    }

    private static boolean isAgent(int a) {
        return a >= 0 && a < AGENTS;
    }

    private static boolean isPair(long value) {
        return value >= PAIR;
    }

    /** A program: a row of bytes, each held as 0 to 255. */
    private static final class Script {
        final int[] bytes = new int[PROGRAM_BYTES];
        int length = 0;

        int append(long lowest, int n) {
            if (length + n > PROGRAM_BYTES) {
                return NONE;
            }
            for (int i = n - 1; i >= 0; i--) {
                bytes[length] = (int) (lowest >>> (8 * i)) & 255;
                length++;
            }
            return length;
        }

        int at(int place) {
            return place >= 0 && place < length ? bytes[place] : NONE;
        }
    }

    /**
     * An agent as it is at one moment. Between instructions its pairs are just those that can be
     * reached, numbered as an image numbers them.
     */
    private static final class Traveller {
        int number = 0;
        int script = 0;
        int place = 0;
        int fuel = 0;
        int hops = 0;
        int said = 0;
        int wait = 0;
        boolean cloned = false;
        int depth = 0;
        int pairs = 0;
        final long[] stack = new long[STACK];
        final long[] firsts = new long[PAIRS];
        final long[] seconds = new long[PAIRS];

        void begin(int a, int p, int startFuel) {
            number = a;
            script = p;
            place = 0;
            fuel = startFuel;
            hops = 0;
            said = 0;
            wait = 0;
            cloned = false;
            depth = 0;
            pairs = 0;
        }

        void copyFrom(Traveller other) {
            number = other.number;
            script = other.script;
            place = other.place;
            fuel = other.fuel;
            hops = other.hops;
            said = other.said;
            wait = other.wait;
            cloned = other.cloned;
            depth = other.depth;
            pairs = other.pairs;
            System.arraycopy(other.stack, 0, stack, 0, depth);
            System.arraycopy(other.firsts, 0, firsts, 0, pairs);
            System.arraycopy(other.seconds, 0, seconds, 0, pairs);
        }

        /** The parent has been given its 0 already: the child has its 1 in the same place. */
        void becomeChildOf(Traveller parent, int share) {
            copyFrom(parent);
            number = parent.number + LAUNCHES;
            fuel = share;
            hops = 0;
            said = 0;
            wait = 0;
            cloned = false;
            if (depth > 0) {
                stack[depth - 1] = 1;
            }
        }

        void push(long value) {
            if (depth < STACK) {
                stack[depth] = value;
                depth++;
            }
        }

        void pushPair(long first, long second) {
            if (pairs < PAIRS) {
                firsts[pairs] = first;
                seconds[pairs] = second;
                push(PAIR + pairs);
                pairs++;
            }
        }

        int tell(int what) {
            switch (what) {
                case 0: return place;
                case 1: return hops;
                case 2: return fuel;
                case 3: return said;
                case 4: return wait;
                case 5: return depth;
                case 6: return pairs;
                default: break;
            }
            if (what < 10 || what - 10 >= depth) {
                return NONE;
            }
            return isPair(stack[what - 10]) ? 1 : 0;
        }
    }

    /** Numbers an agent's pairs as an image does, and so drops those that nothing reaches. */
    private static final class Numbering {
        private final int[] newNumbers = new int[PAIRS];
        private final int[] oldNumbers = new int[PAIRS];
        private final long[] firsts = new long[PAIRS];
        private final long[] seconds = new long[PAIRS];
        private int count = 0;

        void renumber(Traveller t) {
            if (t.pairs == 0) {
                return;
            }
            Arrays.fill(newNumbers, NONE);
            count = 0;
            for (int i = 0; i < t.depth; i++) {
                t.stack[i] = renamed(t.stack[i]);
            }
            // count grows while the pairs are gone over: what a pair has may be met here first
            for (int n = 0; n < PAIRS && n < count; n++) {
                firsts[n] = renamed(t.firsts[oldNumbers[n]]);
                seconds[n] = renamed(t.seconds[oldNumbers[n]]);
            }
            System.arraycopy(firsts, 0, t.firsts, 0, count);
            System.arraycopy(seconds, 0, t.seconds, 0, count);
            t.pairs = count;
        }

        private long renamed(long value) {
            if (!isPair(value)) {
                return value;
            }
            int old = (int) (value - PAIR);
            if (newNumbers[old] == NONE) {
                newNumbers[old] = count;
                oldNumbers[count] = old;
                count++;
            }
            return PAIR + newNumbers[old];
        }
    }

    /** Does instructions, for a host and for the failure-free run alike. */
    private static final class Processor {
        private static final int LAST_CODE = 19;
        private static final int ANY = 0;
        private static final int PAIR_ONLY = 2;

        // By instruction: its bytes, how many values it takes and gives, and the kinds (0 any,
        // 1 an int, 2 a pair) of the lower and the upper value it takes (one, if it takes one).
        private static final int[] SIZES = {1, 2, 1, 1, 1, 2, 1, 2, 1, 1, 2, 2, 1, 1, 1, 1, 1, 1, 1, 1};
        private static final int[] TAKES = {0, 0, 2, 2, 2, 0, 1, 0, 1, 1, 0, 1, 1, 1, 2, 1, 1, 2, 2, 2};
        private static final int[] GIVES = {0, 1, 1, 1, 1, 1, 0, 1, 0, 0, 0, 0, 1, 0, 1, 1, 1, 0, 0, 1};
        private static final int[] LOWER = {0, 0, 1, 1, 1, 0, 0, 0, 1, 1, 0, 1, 1, 1, 0, 2, 2, 2, 2, 0};
        private static final int[] UPPER = {0, 0, 1, 1, 1, 0, 0, 0, 1, 1, 0, 1, 1, 1, 0, 2, 2, 0, 0, 0};

        private final Numbering numbering = new Numbering();
        private int code = 0;
        private int x = 0;
        private long lower = 0;
        private long upper = 0;

        /** With what it asks: the output, the host to go to, or the child's fuel. */
        int asked = 0;

        int perform(Traveller t, Script script, int[] table, int here) {
            t.fuel--;
            if (!read(t, script) || !takesFit(t) || !boundsFit(t)) {
                return ASKS_FAIL;
            }
            t.place += SIZES[code];
            t.depth -= TAKES[code];
            int asks = code >= 14 ? doPairs(t) : doPlain(t, table, here);
            numbering.renumber(t);
            return asks;
        }

        private boolean read(Traveller t, Script script) {
            code = script.at(t.place);
            if (code < 0 || code > LAST_CODE) {
                return false;
            }
            x = SIZES[code] == 2 ? script.at(t.place + 1) : 0;
            return x >= 0;
        }

        private boolean takesFit(Traveller t) {
            int takes = TAKES[code];
            if (t.depth < takes || t.depth - takes + GIVES[code] > STACK) {
                return false;
            }
            if (takes == 0) {
                return true;
            }
            upper = t.stack[t.depth - 1];
            lower = t.stack[t.depth - takes];
            return isOfKind(lower, LOWER[code]) && isOfKind(upper, UPPER[code]);
        }

        private static boolean isOfKind(long value, int kind) {
            return kind == ANY || isPair(value) == (kind == PAIR_ONLY);
        }

        private boolean boundsFit(Traveller t) {
            switch (code) {
                case 5: return x < t.depth;
                case 7: return x < ENTRIES;
                case 8: return t.said < OUTPUTS;
                case 9: return upper >= 0 && upper < HOSTS;
                case 13: return upper >= 0 && upper <= MAX_WAIT;
                case 14: return t.pairs < PAIRS;
                default: return true;
            }
        }

        private int doPlain(Traveller t, int[] table, int here) {
            switch (code) {
                case 0: return ASKS_END;
                case 1: t.push((byte) x); break;
                case 2: t.push((int) lower + (int) upper); break;
                case 3: t.push((int) lower - (int) upper); break;
                case 4: t.push((int) lower * (int) upper); break;
                case 5: t.push(t.stack[t.depth - 1 - x]); break;
                case 7: t.push(table[x]); break;
                case 8: return say(t);
                case 9: return go(t, here);
                case 10: t.place = x; break;
                case 11: t.place = upper != 0 ? x : t.place; break;
                case 12: return divide(t);
                case 13: t.wait = (int) upper; break;
                default: break;
            }
            return ASKS_NOTHING;
        }

        private int doPairs(Traveller t) {
            int pair = isPair(lower) ? (int) (lower - PAIR) : 0;
            switch (code) {
                case 14: t.pushPair(lower, upper); break;
                case 15: t.push(t.firsts[pair]); break;
                case 16: t.push(t.seconds[pair]); break;
                case 17: t.firsts[pair] = upper; break;
                case 18: t.seconds[pair] = upper; break;
                case 19: t.push(lower == upper ? 1 : 0); break;
                default: break;
            }
            return ASKS_NOTHING;
        }

        private int say(Traveller t) {
            t.said++;
            asked = (int) upper;
            return ASKS_SAY;
        }

        private int go(Traveller t, int here) {
            if (upper == here) {
                return ASKS_NOTHING;
            }
            t.hops++;
            asked = (int) upper;
            return ASKS_GO;
        }

        private int divide(Traveller t) {
            if (t.number >= LAUNCHES || t.cloned || upper < 1 || upper > t.fuel) {
                t.push(-1);
                return ASKS_NOTHING;
            }
            asked = (int) upper;
            t.fuel -= asked;
            t.cloned = true;
            t.push(0);
            return ASKS_CLONE;
        }
    }

    /** Outputs of each agent by their numbers; a bit tells which are here. */
    private static final class Sayings {
        private final int[] here = new int[AGENTS];
        private final int[] values = new int[AGENTS * OUTPUTS];

        void put(int a, int i, int value) {
            if (isAgent(a) && i >= 0 && i < OUTPUTS) {
                here[a] |= 1 << i;
                values[a * OUTPUTS + i] = value;
            }
        }

        int count(int a) {
            return Integer.bitCount(here[a]);
        }

        long valueOf(int a, int i) {
            if (!isAgent(a) || i < 0 || i >= OUTPUTS || (here[a] >> i & 1) == 0) {
                return NO_OUTPUT;
            }
            return values[a * OUTPUTS + i];
        }

        void copyFrom(Sayings other) {
            System.arraycopy(other.here, 0, here, 0, AGENTS);
            System.arraycopy(other.values, 0, values, 0, AGENTS * OUTPUTS);
        }

        void addMissing(Sayings other) {
            for (int a = 0; a < AGENTS; a++) {
                int missing = other.here[a] & ~here[a];
                for (int i = 0; i < OUTPUTS; i++) {
                    if ((missing >> i & 1) != 0) {
                        put(a, i, other.values[a * OUTPUTS + i]);
                    }
                }
            }
        }
    }

    /** A host's memory, or a copy of one. */
    private static final class Memory {
        final int[] slots = new int[AGENTS];
        final int[] known = new int[AGENTS];
        final int[] owed = new int[AGENTS];
        final int[] notes = new int[AGENTS];
        final Traveller[] travellers = new Traveller[AGENTS];
        final Sayings sayings = new Sayings();

        Memory() {
            Arrays.fill(known, NONE);
            Arrays.fill(owed, NONE);
            Arrays.fill(notes, NONE);
            for (int a = 0; a < AGENTS; a++) {
                travellers[a] = new Traveller();
            }
        }

        void copyFrom(Memory other) {
            System.arraycopy(other.slots, 0, slots, 0, AGENTS);
            System.arraycopy(other.known, 0, known, 0, AGENTS);
            System.arraycopy(other.owed, 0, owed, 0, AGENTS);
            System.arraycopy(other.notes, 0, notes, 0, AGENTS);
            sayings.copyFrom(other.sayings);
            for (int a = 0; a < AGENTS; a++) {
                if (slots[a] != EMPTY) {
                    travellers[a].copyFrom(other.travellers[a]);
                }
            }
        }

        /** An agent was launched or cloned here, or came here. */
        void settle(int a, int hops) {
            slots[a] = RUNS;
            known[a] = Math.max(known[a], hops);
        }

        void grant(int a, int asks, int asked) {
            switch (asks) {
                case ASKS_SAY: sayings.put(a, travellers[a].said - 1, asked); break;
                case ASKS_GO:
                    slots[a] = LEAVING;
                    notes[a] = asked;
                    break;
                case ASKS_CLONE:
                    travellers[a + LAUNCHES].becomeChildOf(travellers[a], asked);
                    settle(a + LAUNCHES, 0);
                    break;
                case ASKS_END: slots[a] = ENDED; break;
                case ASKS_FAIL: slots[a] = FAILED; break;
                default: break;
            }
        }

        int running() {
            int bits = 0;
            for (int a = 0; a < AGENTS; a++) {
                bits |= slots[a] == RUNS ? 1 << a : 0;
            }
            return bits;
        }

        int filled() {
            int n = 0;
            for (int a = 0; a < AGENTS; a++) {
                n += slots[a] == EMPTY ? 0 : 1;
            }
            return n;
        }

        int hopsOf(int a) {
            return slots[a] == EMPTY ? NONE : travellers[a].hops;
        }

        boolean isLeaving(int a, int hops) {
            return slots[a] == LEAVING && travellers[a].hops == hops;
        }

        void passTime() {
            for (int a = 0; a < AGENTS; a++) {
                if (slots[a] == RUNS && travellers[a].wait > 0) {
                    travellers[a].wait--;
                }
            }
        }
    }

    /** A host, with its memory, its sealed copy and room for the copy that is being written. */
    private static final class Site {
        final int number;
        boolean up = true;
        int sectorsLeft = 0;
        Memory memory = new Memory();
        Memory sealedCopy = new Memory();
        private Memory copy = new Memory();

        Site(int h) {
            number = h;
        }

        int beginCopy() {
            copy.copyFrom(memory);
            sectorsLeft = copy.filled() + 1;
            return sectorsLeft;
        }

        void seal(Sayings released, Wire wire) {
            Memory old = sealedCopy;
            sealedCopy = copy;
            copy = old;
            released.addMissing(sealedCopy.sayings);
            for (int a = 0; a < AGENTS; a++) {
                if (sealedCopy.owed[a] != NONE) {
                    wire.sendReceipt(a, sealedCopy.known[a], number, sealedCopy.owed[a]);
                    // one that came back meanwhile is owed another receipt, which stays owed
                    if (memory.known[a] == sealedCopy.known[a]) {
                        memory.owed[a] = NONE;
                    }
                }
            }
        }

        void goDown() {
            up = false;
            sectorsLeft = 0;
        }

        void comeUp() {
            up = true;
            memory.copyFrom(sealedCopy);
        }

        void sendArrivals(Wire wire) {
            for (int a = 0; a < AGENTS; a++) {
                Traveller t = memory.travellers[a];
                if (memory.slots[a] == LEAVING && sealedCopy.isLeaving(a, t.hops)) {
                    wire.sendArrival(t, number, memory.notes[a]);
                }
            }
        }

        void receive(Message m, Wire wire) {
            if (!up) {
                return;
            }
            int a = m.number;
            if (!m.isArrival) {
                if (memory.isLeaving(a, m.hops)) {
                    memory.slots[a] = EMPTY;
                }
            } else if (m.hops > memory.known[a]) {
                m.unpack(memory.travellers[a]);
                memory.settle(a, m.hops);
                memory.owed[a] = m.from;
            } else if (sealedCopy.known[a] >= m.hops) {
                wire.sendReceipt(a, m.hops, number, m.from);
            }
        }

        int tell(int what) {
            if (what == 0) {
                return up ? 1 : 0;
            }
            if (what == 1) {
                return sectorsLeft;
            }
            if (!up || what < 2 || what >= 2 + 2 * AGENTS) {
                return NONE;
            }
            return what < 2 + AGENTS ? memory.notes[what - 2] : memory.known[what - 2 - AGENTS];
        }
    }

    private static final class Message {
        boolean isArrival = false;
        int number = 0;
        int hops = 0;
        int from = 0;
        int to = 0;
        private int length = 0;
        private int cursor = 0;
        private final byte[] image = new byte[IMAGE_BYTES];

        void address(int a, int hopNumber, int fromHost, int toHost) {
            isArrival = false;
            number = a;
            hops = hopNumber;
            from = fromHost;
            to = toHost;
            length = 0;
        }

        void copyFrom(Message other) {
            address(other.number, other.hops, other.from, other.to);
            isArrival = other.isArrival;
            length = other.length;
            System.arraycopy(other.image, 0, image, 0, length);
        }

        void pack(Traveller t) {
            isArrival = true;
            put(t.number);
            put(t.script);
            put(t.place);
            put(t.hops);
            put(t.said);
            put(t.wait);
            put(t.cloned ? 1 : 0);
            put(t.fuel >> 8);
            put(t.fuel);
            put(t.depth);
            for (int i = 0; i < t.depth; i++) {
                putValue(t.stack[i]);
            }
            put(t.pairs);
            for (int i = 0; i < t.pairs; i++) {
                putValue(t.firsts[i]);
                putValue(t.seconds[i]);
            }
        }

        void unpack(Traveller t) {
            cursor = 0;
            t.number = take();
            t.script = take();
            t.place = take();
            t.hops = take();
            t.said = take();
            t.wait = take();
            t.cloned = take() == 1;
            t.fuel = take() << 8;
            t.fuel |= take();
            t.depth = Math.min(take(), STACK);
            for (int i = 0; i < t.depth; i++) {
                t.stack[i] = takeValue();
            }
            t.pairs = Math.min(take(), PAIRS);
            for (int i = 0; i < t.pairs; i++) {
                t.firsts[i] = takeValue();
                t.seconds[i] = takeValue();
            }
        }

        private void putValue(long value) {
            if (isPair(value)) {
                put(1);
                put((int) (value - PAIR));
                return;
            }
            put(0);
            for (int shift = 24; shift >= 0; shift -= 8) {
                put((int) value >> shift);
            }
        }

        private long takeValue() {
            if (take() == 1) {
                return PAIR + take();
            }
            int value = 0;
            for (int i = 0; i < 4; i++) {
                value = value << 8 | take();
            }
            return value;
        }

        private void put(int b) {
            if (length < IMAGE_BYTES) {
                image[length] = (byte) b;
                length++;
            }
        }

        private int take() {
            if (cursor >= length) {
                return 0;
            }
            cursor++;
            return image[cursor - 1] & 255;
        }

        int tell(int what) {
            switch (what) {
                case 0: return isArrival ? 0 : 1;
                case 1: return number;
                case 2: return hops;
                case 3: return from;
                case 4: return to;
                case 5: return length;
                default: break;
            }
            return what >= 10 && what - 10 < length ? image[what - 10] & 255 : NONE;
        }
    }

    /** The messages under way. */
    private static final class Wire {
        final Message[] row = new Message[MESSAGES];
        int count = 0;

        /** A message that is out of the row is whole while what it brings about is sent. */
        private Message spare = new Message();

        Wire() {
            for (int k = 0; k < MESSAGES; k++) {
                row[k] = new Message();
            }
        }

        boolean has(int k) {
            return k >= 0 && k < count;
        }

        boolean isFull() {
            return count >= MESSAGES;
        }

        void sendArrival(Traveller t, int from, int to) {
            if (!isFull()) {
                row[count].address(t.number, t.hops, from, to);
                row[count].pack(t);
                count++;
            }
        }

        void sendReceipt(int a, int hops, int from, int to) {
            if (!isFull()) {
                row[count].address(a, hops, from, to);
                count++;
            }
        }

        void repeat(int k) {
            if (!isFull()) {
                row[count].copyFrom(row[k]);
                count++;
            }
        }

        Message remove(int k) {
            Message m = row[k];
            count--;
            for (int i = k; i < count; i++) {
                row[i] = row[i + 1];
            }
            row[count] = spare;
            spare = m;
            return m;
        }
    }

    /** What agents would say if nothing ever failed. */
    private static final class FreeRun {
        final Sayings sayings = new Sayings();
        final boolean[] met = new boolean[AGENTS];
        private final Traveller self = new Traveller();
        private final Traveller child = new Traveller();
        private int childHost = 0;

        void follow(Traveller launched, int h, Processor processor, Script[] scripts, int[][] tables) {
            self.copyFrom(launched);
            runAlone(self, h, processor, scripts[self.script], tables);
            if (self.cloned) {
                runAlone(child, childHost, processor, scripts[child.script], tables);
            }
        }

        private void runAlone(Traveller t, int h, Processor processor, Script script, int[][] tables) {
            int here = h;
            met[t.number] = true;
            // to wait does nothing here: the ticks to wait are never looked at
            for (int i = 0; i < MAX_FUEL && t.fuel > 0; i++) {
                int asks = processor.perform(t, script, tables[here], here);
                if (asks == ASKS_END || asks == ASKS_FAIL) {
                    return;
                }
                if (asks == ASKS_SAY) {
                    sayings.put(t.number, t.said - 1, processor.asked);
                } else if (asks == ASKS_GO) {
                    here = processor.asked;
                } else if (asks == ASKS_CLONE) {
                    child.becomeChildOf(t, processor.asked);
                    childHost = here;
                }
            }
        }
    }
}
