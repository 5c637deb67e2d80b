import java.util.ArrayList;
import java.util.Arrays;
import java.util.List;

/**
 * Runs of calls on a new object, a row each: "step 0 40: 40" is a call and the answer that is due;
 * "! step 0 41: IllegalArgumentException" is one that is refused, so that it must also change nothing
 * that later calls show; a row without an answer only sets things up.
 */
final class Rows {
    private static final int CALLS = 512;
    private static final String NO_OUTPUT = "" + (1L << 40);

    private final Check check;
    private final String sentence;
    private final AgentNet net = new AgentNet();
    private final List<Call> made = new ArrayList<>();

    private Rows(Check check, String sentence) {
        this.check = check;
        this.sentence = sentence;
    }

    /** The rows hold, which show what the sentence of the document says. */
    static void hold(Check check, String sentence, String... rows) {
        Rows run = new Rows(check, sentence);
        for (String row : rows) {
            run.row(row);
        }
    }

    static void hold(Check check, String sentence, List<String> rows) {
        hold(check, sentence, rows.toArray(new String[0]));
    }

    /** Rows before others, for runs that begin alike. */
    static String[] after(String[] before, String... rows) {
        String[] all = Arrays.copyOf(before, before.length + rows.length);
        System.arraycopy(rows, 0, all, before.length, rows.length);
        return all;
    }

    private void row(String row) {
        int colon = row.indexOf(':');
        if (colon < 0) {
            for (Call call : Call.calls(row)) {
                setUp(call);
            }
            return;
        }
        boolean refused = row.startsWith("!");
        String due = row.substring(colon + 1).trim();
        Call call = Call.calls(row.substring(refused ? 1 : 0, colon)).get(0);
        if (refused) {
            Twins.changesNothing(check, sentence, made, call);
        }
        same(call, answer(call), due.equals("2^40") ? NO_OUTPUT : due);
    }

    private String answer(Call call) {
        made.add(call);
        if (made.size() > CALLS) {
            throw new AssertionError(sentence + ": more than 512 calls");
        }
        return call.answerOf(net);
    }

    private void same(Call call, String got, String due) {
        check.same(sentence + ": call " + made.size() + ", " + call.text, got, due);
    }

    /** A call that only sets things up must not be refused, or the rows show nothing. */
    private void setUp(Call call) {
        String got = answer(call);
        if (got.equals("-1") || got.equals("false") || got.endsWith("Exception")) {
            check.report(sentence + ": call " + made.size() + ", " + call.text + " answered " + got);
        }
    }
}
