import java.util.ArrayList;
import java.util.List;

/**
 * Holds an object on which a refused call was made against one on which it was not: all later calls
 * must answer alike, at once and after several ways to go on.
 */
final class Twins {
    private static final int CALLS = 512;

    private static final String[] NOTHING = {};

    private static final String[] A_LITTLE = {"step 0 1", "step 1 1", "step 2 1", "step 3 1", "tick 0", "tick 1", "tick 2",
        "tick 3", "write 0 1", "write 1 1", "write 2 1", "write 3 1", "net 0 2"};

    private static final String[] FRESH_AGENTS = {"program 0 0 1", "program 1 513 2", "program 2 514 3", "program 3 515 8",
        "table 0 0 9", "table 3 7 9", "launch 0 0 200", "launch 1 1 200", "launch 2 2 200", "launch 3 3 200", "step 0 40",
        "step 1 40", "step 2 40", "step 3 40", "checkpoint 0", "checkpoint 1", "write 0 9", "write 1 9", "tick 0", "tick 1"};

    private static final String[] CRASHES = {"crash 0", "crash 1", "crash 2", "crash 3", "start 0", "start 1", "start 2",
        "start 3"};

    private static final String[] ALL_GOES_ON = {"start 0", "start 1", "start 2", "start 3", "net 0 0", "net 0 0", "step 0 40",
        "step 1 40", "step 2 40", "step 3 40", "tick 0", "tick 1", "tick 2", "tick 3", "write 0 9", "write 1 9", "write 2 9",
        "write 3 9", "checkpoint 0", "checkpoint 1", "checkpoint 2", "checkpoint 3", "write 0 9", "write 1 9", "write 2 9",
        "write 3 9", "tick 0", "tick 1", "tick 2", "tick 3", "net 0 0", "net 0 0", "net 0 0", "net 0 0", "net 1 0", "step 0 40",
        "step 1 40", "step 2 40", "step 3 40"};

    private static final String[][] WAYS = {NOTHING, A_LITTLE, FRESH_AGENTS, CRASHES, ALL_GOES_ON};

    private Twins() {
    }

    static void changesNothing(Check check, String sentence, List<Call> before, Call refused) {
        for (String[] way : WAYS) {
            List<Call> then = new ArrayList<>();
            for (String text : way) {
                then.addAll(Call.calls(text));
            }
            List<Call> looks = looks(after(after(new AgentNet(), before), then));
            int room = CALLS - before.size() - 1 - then.size();
            if (room < 50) {
                throw new AssertionError(sentence + ": no calls left to look with");
            }
            for (int from = 0; from < looks.size(); from += room) {
                List<Call> later = new ArrayList<>(then);
                later.addAll(looks.subList(from, Math.min(from + room, looks.size())));
                alike(check, sentence, before, refused, later);
            }
        }
    }

    private static AgentNet after(AgentNet net, List<Call> calls) {
        for (Call call : calls) {
            call.answerOf(net);
        }
        return net;
    }

    private static void alike(Check check, String sentence, List<Call> before, Call refused, List<Call> later) {
        AgentNet plain = after(new AgentNet(), before);
        AgentNet tried = after(new AgentNet(), before);
        refused.answerOf(tried);
        for (Call call : later) {
            check.same(sentence + ": " + refused.text + " was refused, then " + call.text, call.answerOf(tried),
                call.answerOf(plain));
        }
    }

    /** All that can be seen of an object like this one, and what is just not there. */
    private static List<Call> looks(AgentNet net) {
        List<Call> all = new ArrayList<>();
        for (int h = 0; h < 4; h++) {
            for (int what = 0; what < 18; what++) {
                add(all, "host " + h + " " + what);
            }
            for (int a = 0; a < 8; a++) {
                add(all, "slot " + h + " " + a);
                for (int what = 0; what <= 15 && net.slot(h, a) > 0; what++) {
                    add(all, "agent " + h + " " + a + " " + what);
                }
            }
        }
        for (int a = 0; a < 8; a++) {
            add(all, "sealed " + a);
            add(all, "outputs " + a);
            add(all, "expected " + a);
            for (int i = 0; i <= Math.max(net.outputs(a), net.expected(a)); i++) {
                add(all, "output " + a + " " + i);
                add(all, "expectedOutput " + a + " " + i);
            }
        }
        for (int k = 0; k == 0 || net.message(k - 1, 0) >= 0; k++) {
            for (int what = 0; what <= 10 + net.message(k, 5); what++) {
                add(all, "message " + k + " " + what);
            }
        }
        return all;
    }

    private static void add(List<Call> all, String text) {
        all.addAll(Call.calls(text));
    }
}
