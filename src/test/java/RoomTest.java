import java.lang.reflect.Array;
import java.lang.reflect.Field;
import java.lang.reflect.Modifier;
import java.util.ArrayDeque;
import java.util.Deque;
import java.util.IdentityHashMap;
import java.util.Map;

/**
 * The room of one run: 600,000 objects and 7.3 million fields and elements. Were each of 512 calls a
 * new object, it would still be enough; and no other call makes an object.
 */
public final class RoomTest {
    private static final Check C = new Check("RoomTest");
    private static final int CALLS = 512;

    public static void main(String[] args) throws IllegalAccessException {
        AgentNet net = new AgentNet();
        long[] before = room(net);
        System.out.println("RoomTest: " + before[0] + " objects, " + before[1] + " fields and elements");
        C.same("objects are few", before[0] * CALLS < 600_000, true);
        C.same("fields and elements are few", before[1] * CALLS < 7_300_000, true);
        callsMakeNoObject();
        C.finish();
    }

    private static long[] room(Object root) throws IllegalAccessException {
        Map<Object, Object> met = new IdentityHashMap<>();
        Deque<Object> left = new ArrayDeque<>();
        left.add(root);
        met.put(root, root);
        long[] counts = new long[2];
        while (!left.isEmpty()) {
            Object one = left.remove();
            counts[0]++;
            if (one.getClass().isArray()) {
                counts[1] += Array.getLength(one);
                if (!one.getClass().getComponentType().isPrimitive()) {
                    for (Object part : (Object[]) one) {
                        meet(met, left, part);
                    }
                }
            } else {
                for (Field f : one.getClass().getDeclaredFields()) {
                    if (!Modifier.isStatic(f.getModifiers())) {
                        counts[1]++;
                        f.setAccessible(true);
                        meet(met, left, f.getType().isPrimitive() ? null : f.get(one));
                    }
                }
            }
        }
        return counts;
    }

    private static void meet(Map<Object, Object> met, Deque<Object> left, Object part) {
        if (part != null && met.put(part, part) == null) {
            left.add(part);
        }
    }

    private static void callsMakeNoObject() {
        com.sun.management.ThreadMXBean bean =
            (com.sun.management.ThreadMXBean) java.lang.management.ManagementFactory.getThreadMXBean();
        long id = Thread.currentThread().getId();
        long least = Long.MAX_VALUE;
        // the first time, the machine itself makes objects (it loads classes)
        for (int i = 0; i < 5; i++) {
            AgentNet net = new AgentNet();
            // asking for the count takes bytes too
            long first = bean.getThreadAllocatedBytes(id);
            long second = bean.getThreadAllocatedBytes(id);
            busy(net);
            long third = bean.getThreadAllocatedBytes(id);
            least = Math.min(least, (third - second) - (second - first));
        }
        C.same("bytes that the calls took", least, 0);
    }

    private static void busy(AgentNet net) {
        net.table(1, 0, 5);
        net.program(0, 0x01_01_01_02_0E_05_00_0FL, 8);
        net.program(0, 0x01_14_0C_08_01_01_09_08L, 8);
        for (int a = 0; a < 4; a++) {
            net.launch(0, 0, 200);
        }
        for (int i = 0; i < 10; i++) {
            for (int h = 0; h < 4; h++) {
                net.step(h, 40);
                net.checkpoint(h);
                net.write(h, 40);
                net.tick(h);
                net.crash(h);
                net.start(h);
                net.sealed(i);
                net.outputs(i);
                net.output(i, 0);
                net.expected(i);
                net.expectedOutput(i, 0);
                net.agent(h, i, 6);
                net.host(h, i);
                net.slot(h, i);
            }
            for (int k = 0; k < 3 && net.message(0, 0) != AgentNet.NONE; k++) {
                if (net.message(19, 0) == AgentNet.NONE) {
                    net.net(0, 2);
                }
                net.net(0, 0);
                net.message(0, 12);
            }
        }
    }
}
