/** Promise 3: table. */
public final class TableTest {
    public static void main(String[] args) {
        Check c = new Check("TableTest");
        entriesAreRead(c);
        wrongArguments(c);
        notAfterALaunch(c);
        c.finish();
    }

    private static void entriesAreRead(Check c) {
        AgentNet net = new AgentNet();
        for (int h = 0; h < 4; h++) {
            for (int k = 0; k < 8; k++) {
                c.same("table " + h + " " + k, net.table(h, k, 1000 * h - k), true);
            }
        }
        c.same("again", net.table(2, 7, Integer.MIN_VALUE), true);
        for (int h = 0; h < 4; h++) {
            for (int k = h; k < 8; k += 4) {
                Kit.load(net, h, Kit.TABLE, k, Kit.SAY, Kit.TABLE, 7, Kit.SAY);
            }
            net.table(h, 0, h);
        }
        for (int h = 0; h < 4; h++) {
            net.launch(h, h, 100);
            int last = h == 2 ? Integer.MIN_VALUE : 1000 * h - 7;
            c.same("entry " + h, net.expectedOutput(h, 0), h == 0 ? 0 : 1000 * h - h);
            c.same("entry 7", net.expectedOutput(h, 1), last);
            c.same("entry " + (h + 4), net.expectedOutput(h, 2), h == 3 ? last : 1000 * h - h - 4);
        }
    }

    private static void wrongArguments(Check c) {
        AgentNet net = new AgentNet();
        c.same("host -1", net.table(-1, 0, 1), false);
        c.same("host 4", net.table(4, 0, 1), false);
        c.same("entry -1", net.table(0, -1, 1), false);
        c.same("entry 8", net.table(0, 8, 1), false);
        c.same("far off", net.table(Integer.MAX_VALUE, Integer.MIN_VALUE, 1), false);
        c.same("host that is down", net.crash(0) && net.table(0, 0, 1), true);
    }

    private static void notAfterALaunch(Check c) {
        AgentNet net = new AgentNet();
        Kit.load(net, 0, Kit.TABLE, 2, Kit.SAY);
        net.table(0, 2, 5);
        net.launch(0, 0, 9);
        c.same("after", net.table(0, 2, 6), false);
        c.same("another host after", net.table(3, 0, 6), false);
        net.step(0, 2);
        Kit.seal(net, 0);
        c.same("it is as it was", net.output(0, 0), 5);
    }
}
