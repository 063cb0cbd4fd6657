import java.lang.management.ManagementFactory;

/**
 * Wild calls never throw, and all calls of one run find room: 600,000 objects and 7.3 million elements.
 * What a run takes is seen in bytes: the machine gives some 16 to an object and 4 or 8 to each element.
 */
public final class RoomTest {
    private static final long MOST_BYTES = 12_000_000L;
    private static long seed = 4711;
    private static int wrong = 0;

    public static void main(String[] args) throws Exception {
        wild();
        com.sun.management.ThreadMXBean bean = (com.sun.management.ThreadMXBean) ManagementFactory.getThreadMXBean();
        long thread = Thread.currentThread().getId();
        for (int call = 0; call < 21; call++) {
            long before = bean.getThreadAllocatedBytes(thread);
            dear(call);
            long bytes = bean.getThreadAllocatedBytes(thread) - before;
            if (bytes > MOST_BYTES) {
                wrong++;
                System.out.println("512 calls of kind " + call + " take " + bytes + " bytes");
            }
        }
        System.out.println(wrong == 0 ? "RoomTest: nothing throws, and there is room" : "RoomTest: " + wrong + " faults");
        System.exit(wrong == 0 ? 0 : 1);
    }

    /** 512 calls in all, as many as may be of the dear one, with as many TRACKS as there can be. */
    private static void dear(int call) {
        JetTrees x = new JetTrees();
        x.set(0, 200);
        x.drawn(0, 0, 60, 20);
        x.drawn(0, 0, 60, 20);
        x.gather(0);
        int jet = x.jet(0, 0);
        for (int i = 0; i < 507; i++) {
            switch (call) {
                case 0: x.gather(i % 4); break;
                case 1: x.fresh(0); break;
                case 2: x.apart(0, jet, 1, 200, 1 + i % 3); break;
                case 3: x.trim(0, jet, 200, 500); break;
                case 4: x.prune(0, jet, 500, 5); break;
                case 5: x.still(20, -1); break;
                case 6: x.patch(20, 1000, -1); break;
                case 7: x.span(38, 0); break;
                case 8: x.pedestal(1); break;
                case 9: x.clean(0, jet, 1); break;
                case 10: x.axis(); break;
                case 11: x.keep(0, 0, 40); break;
                case 12: x.tau(0, jet, 9); break;
                case 13: x.move(0, 0, i % 360); break;
                case 14:
                    if (i % 2 == 0) {
                        x.drop(0);
                    } else {
                        x.track(0, 0, 1);
                    }
                    break;
                case 15: x.image(); break;
                case 16: x.back(); break;
                case 17: x.tell(i); break;
                case 18: x.common(0, 0); break;
                case 19: x.nearestPair(0, 5); break;
                default: x.cone(0, 0, 200, 2); break;
            }
        }
    }

    private static int any() {
        seed = seed * 6364136223846793005L + 1442695040888963407L;
        int number = (int) (seed >>> 32);
        switch ((int) (seed >>> 60)) {
            case 0: return Integer.MIN_VALUE;
            case 1: return Integer.MAX_VALUE;
            case 2: return number;
            case 3: return number >> 20;
            case 4: return -1;
            case 5: return Math.floorMod(number, 80);
            case 6: return Math.floorMod(number, 1001);
            case 7: return Math.floorMod(number, 40);
            default: return Math.floorMod(number, 5);
        }
    }

    private static void wild() throws Exception {
        java.lang.reflect.Method[] methods = JetTrees.class.getDeclaredMethods();
        java.util.Arrays.sort(methods, java.util.Comparator.comparing(java.lang.reflect.Method::getName));
        for (int run = 0; run < 400; run++) {
            JetTrees x = new JetTrees();
            for (int i = 0; i < 512; i++) {
                java.lang.reflect.Method method = methods[Math.floorMod(any(), methods.length)];
                if (i % 7 == 0) {
                    method = JetTrees.class.getMethod("track", int.class, int.class, int.class);
                }
                if (!java.lang.reflect.Modifier.isPublic(method.getModifiers())) {
                    continue;
                }
                Object[] arguments = new Object[method.getParameterCount()];
                for (int k = 0; k < arguments.length; k++) {
                    arguments[k] = method.getParameterTypes()[k] == long.class ? (Object) ((long) any() * any()) : (Object) any();
                }
                try {
                    method.invoke(x, arguments);
                } catch (java.lang.reflect.InvocationTargetException e) {
                    wrong++;
                    System.out.println(method.getName() + java.util.Arrays.toString(arguments) + " threw " + e.getCause());
                }
            }
        }
    }
}
