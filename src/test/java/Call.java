import java.util.ArrayList;
import java.util.List;

/** One call of the face, written as text ("step 0 40"), with its answer as text. */
final class Call {
    private static final String[] CODES = {"end", "push", "add", "sub", "mul", "pick", "drop", "table", "say", "go", "jump",
        "jumpif", "clone", "wait", "pair", "first", "second", "setfirst", "setsecond", "same"};

    final String text;
    private final String name;
    private final long[] args;

    private Call(String text) {
        String[] words = text.trim().split(" +");
        this.text = text.trim();
        name = words[0];
        args = new long[words.length - 1];
        for (int i = 0; i < args.length; i++) {
            args[i] = number(words[i + 1]);
        }
    }

    private static long number(String word) {
        switch (word) {
            case "MIN": return Integer.MIN_VALUE;
            case "MAX": return Integer.MAX_VALUE;
            default: return word.startsWith("0x") ? Long.parseUnsignedLong(word.substring(2), 16) : Long.parseLong(word);
        }
    }

    /**
     * The calls that a text stands for: itself, or "load p push 1 go" (the bytes of a program, up to
     * eight a call), "seal h", "send h" (sealed and ticked), "restart h", "times n call".
     */
    static List<Call> calls(String text) {
        String[] words = text.trim().split(" +");
        List<Call> all = new ArrayList<>();
        switch (words[0]) {
            case "load":
                load(all, words);
                break;
            case "send":
                all.addAll(calls("seal " + words[1]));
                all.add(new Call("tick " + words[1]));
                break;
            case "seal":
                all.add(new Call("checkpoint " + words[1]));
                all.add(new Call("write " + words[1] + " 9"));
                break;
            case "restart":
                all.add(new Call("crash " + words[1]));
                all.add(new Call("start " + words[1]));
                break;
            case "times":
                for (int i = Integer.parseInt(words[1]); i > 0; i--) {
                    all.addAll(calls(text.substring(text.indexOf(words[2], 6 + words[1].length()))));
                }
                break;
            default:
                all.add(new Call(text));
                break;
        }
        return all;
    }

    private static void load(List<Call> all, String[] words) {
        int at = 2;
        while (at < words.length) {
            int n = Math.min(8, words.length - at);
            long bytes = 0;
            for (int i = 0; i < n; i++) {
                bytes = bytes << 8 | code(words[at + i]);
            }
            all.add(new Call("program " + words[1] + " " + bytes + " " + n));
            at += n;
        }
    }

    private static long code(String word) {
        for (int i = 0; i < CODES.length; i++) {
            if (CODES[i].equals(word)) {
                return i;
            }
        }
        return Long.parseLong(word) & 255;
    }

    /** The number, true or false, or the simple name of the exception. */
    String answerOf(AgentNet net) {
        try {
            return made(net);
        } catch (RuntimeException e) {
            return e.getClass().getSimpleName();
        }
    }

    private int arg(int i) {
        if (args[i] != (int) args[i]) {
            throw new AssertionError("no int in " + text);
        }
        return (int) args[i];
    }

    private String made(AgentNet net) {
        switch (name) {
            case "program": return "" + net.program(arg(0), args[1], arg(2));
            case "table": return "" + net.table(arg(0), arg(1), arg(2));
            case "launch": return "" + net.launch(arg(0), arg(1), arg(2));
            case "step": return "" + net.step(arg(0), arg(1));
            case "tick": return "" + net.tick(arg(0));
            case "checkpoint": return "" + net.checkpoint(arg(0));
            case "write": return "" + net.write(arg(0), arg(1));
            case "crash": return "" + net.crash(arg(0));
            case "start": return "" + net.start(arg(0));
            case "net": return "" + net.net(arg(0), arg(1));
            default: return looked(net);
        }
    }

    private String looked(AgentNet net) {
        switch (name) {
            case "message": return "" + net.message(arg(0), arg(1));
            case "slot": return "" + net.slot(arg(0), arg(1));
            case "agent": return "" + net.agent(arg(0), arg(1), arg(2));
            case "host": return "" + net.host(arg(0), arg(1));
            case "sealed": return "" + net.sealed(arg(0));
            case "outputs": return "" + net.outputs(arg(0));
            case "output": return "" + net.output(arg(0), arg(1));
            case "expected": return "" + net.expected(arg(0));
            case "expectedOutput": return "" + net.expectedOutput(arg(0), arg(1));
            default: throw new AssertionError("no such call: " + text);
        }
    }
}
