import java.util.ArrayList;
import java.util.Collections;
import java.util.List;
import java.util.Random;

/** An object and a model on which the same calls are made: each answer must be the model's. */
final class Both {
    static final int CALLS = 512;

    final AgentNet net = new AgentNet();
    final Model model = new Model();
    int calls = 0;

    private final Check check;
    private final String run;

    private interface Answer {
        long get();
    }

    Both(Check check, String run) {
        this.check = check;
        this.run = run;
    }

    int callsLeft() {
        return CALLS - calls;
    }

    private void same(String call, Answer got, Answer due) {
        calls++;
        check.same(run + ", call " + calls + ": " + call, answerOf(got), answerOf(due));
    }

    private static long answerOf(Answer answer) {
        try {
            return answer.get();
        } catch (IllegalArgumentException e) {
            return Long.MIN_VALUE + 1;
        } catch (IndexOutOfBoundsException e) {
            return e.getClass() == IndexOutOfBoundsException.class ? Long.MIN_VALUE + 2 : Long.MIN_VALUE + 9;
        } catch (IllegalStateException e) {
            return Long.MIN_VALUE + 3;
        }
    }

    void program(int p, long bytes, int n) {
        same("program " + p + " " + bytes + " " + n, () -> net.program(p, bytes, n), () -> model.program(p, bytes, n));
    }

    void table(int h, int k, int v) {
        same("table " + h + " " + k + " " + v, () -> net.table(h, k, v) ? 1 : 0, () -> model.table(h, k, v));
    }

    void launch(int h, int p, int fuel) {
        same("launch " + h + " " + p + " " + fuel, () -> net.launch(h, p, fuel), () -> model.launch(h, p, fuel));
    }

    void step(int h, int n) {
        same("step " + h + " " + n, () -> net.step(h, n), () -> model.step(h, n));
    }

    void tick(int h) {
        same("tick " + h, () -> net.tick(h), () -> model.tick(h));
    }

    void checkpoint(int h) {
        same("checkpoint " + h, () -> net.checkpoint(h), () -> model.checkpoint(h));
    }

    void write(int h, int n) {
        same("write " + h + " " + n, () -> net.write(h, n), () -> model.write(h, n));
    }

    void crash(int h) {
        same("crash " + h, () -> net.crash(h) ? 1 : 0, () -> model.crash(h));
    }

    void start(int h) {
        same("start " + h, () -> net.start(h) ? 1 : 0, () -> model.start(h));
    }

    void deliver(int k, int action) {
        same("net " + k + " " + action, () -> net.net(k, action), () -> model.net(k, action));
    }

    void message(int k, int what) {
        same("message " + k + " " + what, () -> net.message(k, what), () -> model.message(k, what));
    }

    void slot(int h, int a) {
        same("slot " + h + " " + a, () -> net.slot(h, a), () -> model.slot(h, a));
    }

    void agent(int h, int a, int what) {
        same("agent " + h + " " + a + " " + what, () -> net.agent(h, a, what), () -> model.agent(h, a, what));
    }

    void host(int h, int what) {
        same("host " + h + " " + what, () -> net.host(h, what), () -> model.host(h, what));
    }

    void sealed(int a) {
        same("sealed " + a, () -> net.sealed(a), () -> model.sealed(a));
    }

    void outputs(int a) {
        same("outputs " + a, () -> net.outputs(a), () -> model.outputs(a));
    }

    void output(int a, int i) {
        same("output " + a + " " + i, () -> net.output(a, i), () -> model.output(a, i));
    }

    void expected(int a) {
        same("expected " + a, () -> net.expected(a), () -> model.expected(a));
    }

    void expectedOutput(int a, int i) {
        same("expectedOutput " + a + " " + i, () -> net.expectedOutput(a, i), () -> model.expectedOutput(a, i));
    }

    /** Appends the bytes, in calls of any length. */
    void load(int p, int[] bytes, Chance chance) {
        int at = 0;
        while (at < bytes.length) {
            int n = Math.min(bytes.length - at, chance.from(1, 8));
            long packed = chance.anyInt();
            for (int i = 0; i < n; i++) {
                packed = packed << 8 | bytes[at + i];
            }
            at += n;
            program(p, packed, n);
        }
    }

    /** Looks at all there is to see, in any order, as far as the 512 calls reach. */
    void lookAround(long seed) {
        List<Runnable> looks = new ArrayList<>();
        for (int a = 0; a < 8; a++) {
            int it = a;
            Collections.addAll(looks, () -> sealed(it), () -> outputs(it), () -> expected(it));
            for (int i = 0; i <= Math.max(model.outputs(a), model.expected(a)); i++) {
                int at = i;
                Collections.addAll(looks, () -> output(it, at), () -> expectedOutput(it, at));
            }
            for (int h = 0; h < 4; h++) {
                looksAt(looks, h, a);
            }
        }
        for (int k = 0; k <= model.row.size(); k++) {
            for (int what = 0; what <= 10 + model.message(k, 5); what++) {
                int at = k;
                int it = what;
                looks.add(() -> message(at, it));
            }
        }
        Collections.shuffle(looks, new Random(seed));
        for (Runnable look : looks.subList(0, Math.min(looks.size(), callsLeft()))) {
            look.run();
        }
    }

    private void looksAt(List<Runnable> looks, int h, int a) {
        Collections.addAll(looks, () -> slot(h, a), () -> host(h, 2 + a), () -> host(h, 10 + a));
        for (int what = 0; what <= 16 && model.slot(h, a) > 0; what++) {
            int it = what;
            looks.add(() -> agent(h, a, it));
        }
        if (a < 2) {
            looks.add(() -> host(h, a));
        }
    }
}
