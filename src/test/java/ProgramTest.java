/** Promise 2: program. */
public final class ProgramTest {
    public static void main(String[] args) {
        Check c = new Check("ProgramTest");
        lowestBytesHighestFirst(c);
        wrongArguments(c);
        atMostFortyEight(c);
        notAfterALaunch(c);
        c.finish();
    }

    private static void lowestBytesHighestFirst(Check c) {
        AgentNet net = new AgentNet();
        // the two highest bytes of the long are none of the lowest six
        c.same("six bytes", net.program(3, 0x7777_01_05_08_01_09_08L, 6), 6);
        c.same("eight bytes", net.program(3, 0x01_FF_08_01_80_08_01_7FL, 8), 14);
        c.same("one byte", net.program(3, 0xFFFFFFFFFFFFFF08L, 1), 15);
        c.same("another program", net.program(2, -1L, 8), 8);
        net.launch(0, 3, 100);
        c.same("count", net.expected(0), 5);
        long[] due = {5, 9, -1, -128, 127};
        for (int i = 0; i < due.length; i++) {
            c.same("output " + i, net.expectedOutput(0, i), due[i]);
        }
    }

    private static void wrongArguments(Check c) {
        AgentNet net = new AgentNet();
        c.same("program -1", net.program(-1, 0, 1), -1);
        c.same("program 4", net.program(4, 0, 1), -1);
        c.same("n 0", net.program(0, 0, 0), -1);
        c.same("n 9", net.program(0, 0, 9), -1);
        c.same("n -1", net.program(0, 0, -1), -1);
        c.same("greatest n", net.program(0, 0, Integer.MAX_VALUE), -1);
        c.same("least p", net.program(Integer.MIN_VALUE, 0, 1), -1);
        c.same("nothing was appended", net.program(0, 0, 1), 1);
    }

    private static void atMostFortyEight(Check c) {
        AgentNet net = new AgentNet();
        for (int i = 1; i <= 5; i++) {
            c.same("eight more", net.program(1, 0, 8), 8 * i);
        }
        c.same("to 47", net.program(1, 0, 7), 47);
        c.same("two more", net.program(1, 0x0108, 2), -1);
        c.same("eight more of 47", net.program(1, 0, 8), -1);
        c.same("the last one", net.program(1, 0, 1), 48);
        c.same("one more", net.program(1, 0, 1), -1);
        c.same("others have room", net.program(0, 0, 8), 8);
    }

    private static void notAfterALaunch(Check c) {
        AgentNet net = new AgentNet();
        c.same("before", net.program(0, 0, 1), 1);
        c.illegalArgument("a launch that throws", () -> net.launch(0, 0, 0));
        c.same("a launch that threw was none", net.program(0, 0, 1), 2);
        net.launch(0, 0, 1);
        c.same("after", net.program(0, 0, 1), -1);
        c.same("another program after", net.program(1, 0, 1), -1);
        Kit.restart(net, 0);
        c.same("when the agent is gone", net.program(0, 0, 1), -1);
    }
}
