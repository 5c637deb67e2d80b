/** Short ways to bring an AgentNet into a state. */
final class Kit {
    static final long NO_OUTPUT = 1L << 40;

    static final int END = 0, PUSH = 1, ADD = 2, SUB = 3, MUL = 4, PICK = 5, DROP = 6, TABLE = 7,
        SAY = 8, GO = 9, JUMP = 10, JUMP_IF = 11, CLONE = 12, WAIT = 13, PAIR = 14, FIRST = 15,
        SECOND = 16, SET_FIRST = 17, SET_SECOND = 18, SAME = 19;

    private Kit() {
    }

    /** Appends the bytes to program p, one call a byte. */
    static void load(AgentNet net, int p, int... bytes) {
        for (int b : bytes) {
            if (net.program(p, b, 1) == AgentNet.NONE) {
                throw new AssertionError("program " + p + " took no more");
            }
        }
    }

    /** A new object whose program 0 has these bytes, launched at host 0. */
    static AgentNet launched(int fuel, int... bytes) {
        AgentNet net = new AgentNet();
        load(net, 0, bytes);
        net.launch(0, 0, fuel);
        return net;
    }

    /** The same after so many rounds at host 0. */
    static AgentNet stepped(int rounds, int... bytes) {
        AgentNet net = launched(200, bytes);
        net.step(0, rounds);
        return net;
    }

    static void seal(AgentNet net, int h) {
        net.checkpoint(h);
        net.write(h, 99);
    }

    /** Seals and ticks host h, so that what leaves it is under way. */
    static void send(AgentNet net, int h) {
        seal(net, h);
        net.tick(h);
    }

    static void restart(AgentNet net, int h) {
        net.crash(h);
        net.start(h);
    }

    /** Bytes that put so many zeros on the stack, behind which come others. */
    static int[] zerosThen(int zeros, int... rest) {
        int[] all = new int[2 * zeros + rest.length];
        for (int i = 0; i < zeros; i++) {
            all[2 * i] = PUSH;
        }
        System.arraycopy(rest, 0, all, 2 * zeros, rest.length);
        return all;
    }

    static int[] image(AgentNet net, int k) {
        int[] bytes = new int[net.message(k, 5)];
        for (int i = 0; i < bytes.length; i++) {
            bytes[i] = net.message(k, 10 + i);
        }
        return bytes;
    }
}
