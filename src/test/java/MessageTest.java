import java.util.Arrays;

/** Promise 12: message, and the bytes of an image. */
public final class MessageTest {
    private static final Check C = new Check("MessageTest");

    public static void main(String[] args) {
        whatAMessageTells();
        plainImage();
        negativeIntsAndFuel();
        pairsAreNumberedFromTheStack();
        pairsInPairs();
        unreachedPairsAreLeftOut();
        theLargestImage();
        noneSuch();
        C.finish();
    }

    private static void imageIs(String what, AgentNet net, int... due) {
        int[] got = Kit.image(net, 0);
        if (!Arrays.equals(got, due)) {
            C.report(what + " is " + Arrays.toString(got) + ", due is " + Arrays.toString(due));
        }
        C.same(what + ": length", got.length, due.length);
        C.same(what + ": no more bytes", net.message(0, 10 + due.length), -1);
    }

    /** A message of agent 0, which ran these bytes until it goes from host 0 to host 3. */
    private static AgentNet gone(int fuel, int... bytes) {
        int[] all = Arrays.copyOf(bytes, bytes.length + 3);
        all[bytes.length] = Kit.PUSH;
        all[bytes.length + 1] = 3;
        all[bytes.length + 2] = Kit.GO;
        AgentNet net = Kit.launched(fuel, all);
        net.step(0, 40);
        Kit.send(net, 0);
        return net;
    }

    private static void whatAMessageTells() {
        AgentNet net = new AgentNet();
        Kit.load(net, 2, Kit.PUSH, 3, Kit.GO, Kit.PUSH, 2, Kit.GO);
        net.launch(0, 2, 1);
        net.launch(1, 2, 20);
        net.step(1, 2);
        Kit.send(net, 1);
        int[] arrival = {0, 1, 1, 1, 3, 11, -1, -1, -1, -1, 1, 2, 3, 1, 0, 0, 0, 0, 18, 0, 0, -1};
        for (int what = 0; what < arrival.length; what++) {
            C.same("arrival " + what, net.message(0, what), arrival[what]);
        }
        net.net(0, 0);
        net.step(3, 2);
        Kit.send(net, 3);
        int[] receipt = {1, 1, 1, 3, 1, 0, -1, -1, -1, -1, -1, -1};
        for (int what = 0; what < receipt.length; what++) {
            C.same("receipt " + what, net.message(0, what), receipt[what]);
        }
        int[] second = {0, 1, 2, 3, 2, 11};
        for (int what = 0; what < second.length; what++) {
            C.same("second arrival " + what, net.message(1, what), second[what]);
        }
    }

    private static void plainImage() {
        imageIs("nothing on the stack", gone(9), 0, 0, 3, 1, 0, 0, 0, 0, 7, 0, 0);
        imageIs("said and cloned", gone(90, Kit.PUSH, 4, Kit.SAY, Kit.PUSH, 9, Kit.CLONE),
            0, 0, 9, 1, 1, 0, 1, 0, 90 - 6 - 9, 1, 0, 0, 0, 0, 0, 0);
    }

    private static void negativeIntsAndFuel() {
        AgentNet net = new AgentNet();
        net.table(0, 3, 0x12_34_56_78);
        net.table(0, 4, 0x80_FF_00_7F);
        Kit.load(net, 0, Kit.TABLE, 3, Kit.TABLE, 4, Kit.PUSH, 256 - 2, Kit.PUSH, 1, Kit.GO);
        net.launch(0, 0, 200);
        net.step(0, 9);
        Kit.send(net, 0);
        imageIs("ints", net, 0, 0, 9, 1, 0, 0, 0, 0, 195, 3, 0, 0x12, 0x34, 0x56, 0x78, 0, 0x80, 0xFF, 0, 0x7F,
            0, 255, 255, 255, 254, 0);
    }

    private static void pairsAreNumberedFromTheStack() {
        AgentNet net = gone(100, Kit.PUSH, 0, Kit.PUSH, 1, Kit.PUSH, 2, Kit.PAIR, Kit.PUSH, 3, Kit.PUSH, 4, Kit.PAIR,
            Kit.PICK, 0, Kit.PICK, 2);
        imageIs("two pairs", net, 0, 0, 19, 1, 0, 0, 0, 0, 100 - 11, 5,
            0, 0, 0, 0, 0, 1, 0, 1, 1, 1, 1, 1, 0, 2,
            0, 0, 0, 0, 1, 0, 0, 0, 0, 2, 0, 0, 0, 0, 3, 0, 0, 0, 0, 4);
    }

    private static void pairsInPairs() {
        // the stack: p = (1, 2), q = (7, p), p, (q, p)
        AgentNet later = gone(100, Kit.PUSH, 1, Kit.PUSH, 2, Kit.PAIR, Kit.PUSH, 7, Kit.PICK, 1, Kit.PAIR,
            Kit.PICK, 0, Kit.SECOND, Kit.PICK, 2, Kit.DROP, Kit.PICK, 1, Kit.PICK, 1, Kit.PAIR);
        imageIs("p, q, p, (q, p)", later, 0, 0, 24, 1, 0, 0, 0, 0, 100 - 15, 4, 1, 0, 1, 1, 1, 0, 1, 2, 3,
            0, 0, 0, 0, 1, 0, 0, 0, 0, 2,
            0, 0, 0, 0, 7, 1, 0,
            1, 1, 1, 0);
        // p = (1, 2), q = (p, 5), r = (q, p), s = (6, r), then p's second becomes s
        AgentNet net = gone(100, Kit.PUSH, 1, Kit.PUSH, 2, Kit.PAIR, Kit.PICK, 0, Kit.PUSH, 5, Kit.PAIR,
            Kit.PICK, 1, Kit.PAIR, Kit.PUSH, 6, Kit.PICK, 1, Kit.PAIR, Kit.PICK, 2, Kit.PICK, 1, Kit.SET_SECOND,
            Kit.PICK, 2, Kit.DROP, Kit.PICK, 0);
        // the stack: p, r, s, s; p is 0, r is 1, s is 2; p = (1, s), r = (q, p): q is 3
        imageIs("rings", net, 0, 0, 31, 1, 0, 0, 0, 0, 100 - 19, 4, 1, 0, 1, 1, 1, 2, 1, 2, 4,
            0, 0, 0, 0, 1, 1, 2,
            1, 3, 1, 0,
            0, 0, 0, 0, 6, 1, 1,
            1, 0, 0, 0, 0, 0, 5);
        // r = (p, q) alone on the stack, with p = (3, 4) and q = (p, r)
        AgentNet firstBeforeSecond = gone(100, Kit.PUSH, 3, Kit.PUSH, 4, Kit.PAIR, Kit.PICK, 0, Kit.PUSH, 0, Kit.PAIR,
            Kit.PAIR, Kit.PICK, 0, Kit.SECOND, Kit.PICK, 1, Kit.SET_SECOND);
        imageIs("first before second", firstBeforeSecond, 0, 0, 20, 1, 0, 0, 0, 0, 100 - 13, 1, 1, 0, 3,
            1, 1, 1, 2,
            0, 0, 0, 0, 3, 0, 0, 0, 0, 4,
            1, 1, 1, 0);
    }

    private static void unreachedPairsAreLeftOut() {
        AgentNet net = gone(100, Kit.PUSH, 1, Kit.PUSH, 2, Kit.PAIR, Kit.PUSH, 3, Kit.PUSH, 4, Kit.PAIR, Kit.PICK, 1,
            Kit.PICK, 1, Kit.PAIR, Kit.FIRST, Kit.PUSH, 9, Kit.SET_FIRST);
        imageIs("two are reached", net, 0, 0, 22, 1, 0, 0, 0, 0, 100 - 14, 2, 1, 0, 1, 1, 2,
            0, 0, 0, 0, 9, 0, 0, 0, 0, 2,
            0, 0, 0, 0, 3, 0, 0, 0, 0, 4);
        AgentNet none = gone(100, Kit.PUSH, 1, Kit.PUSH, 2, Kit.PAIR, Kit.SECOND);
        imageIs("none is reached", none, 0, 0, 9, 1, 0, 0, 0, 0, 94, 1, 0, 0, 0, 0, 2, 0);
    }

    private static void theLargestImage() {
        // eight pairs on a stack of five values, the last a chain, and the stack is full when it goes
        AgentNet net = new AgentNet();
        Kit.load(net, 0, Kit.PUSH, 0, Kit.PUSH, 0, Kit.PAIR, Kit.PUSH, 0, Kit.PUSH, 0, Kit.PAIR, Kit.PUSH, 0, Kit.PUSH, 0,
            Kit.PAIR, Kit.PUSH, 0, Kit.PUSH, 0, Kit.PAIR, Kit.PUSH, 0, Kit.PUSH, 0, Kit.PAIR, Kit.PUSH, 1, Kit.PAIR,
            Kit.PUSH, 1, Kit.PAIR, Kit.PUSH, 1, Kit.PAIR, Kit.PUSH, 1, Kit.GO);
        net.launch(0, 0, 200);
        net.step(0, 40);
        C.same("pairs", net.agent(0, 0, 6), 8);
        Kit.send(net, 0);
        C.same("bytes", net.message(0, 5), 9 + 1 + 5 * 2 + 1 + 13 * 5 + 3 * 2);
        int[] before = Kit.image(net, 0);
        net.net(0, 0);
        C.same("pairs there", net.agent(1, 0, 6), 8);
        C.same("values there", net.agent(1, 0, 5), 5);
        C.same("last byte", before[before.length - 1], 0);
        int[] tail = Arrays.copyOfRange(before, 10, 20);
        C.same("the stack", Arrays.equals(tail, new int[] {1, 0, 1, 1, 1, 2, 1, 3, 1, 4}), true);
    }

    private static void noneSuch() {
        AgentNet net = gone(50);
        C.same("message 1", net.message(1, 0), -1);
        C.same("message -1", net.message(-1, 0), -1);
        C.same("message 20", net.message(20, 0), -1);
        C.same("far", net.message(Integer.MAX_VALUE, 0), -1);
        for (int what : new int[] {-1, 6, 7, 8, 9, Integer.MIN_VALUE, Integer.MAX_VALUE}) {
            C.same("what " + what, net.message(0, what), -1);
        }
        net.net(0, 1);
        C.same("lost", net.message(0, 0), -1);
    }
}
