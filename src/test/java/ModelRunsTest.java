import java.lang.reflect.InvocationTargetException;
import java.lang.reflect.Method;
import java.util.Arrays;
import java.util.HashMap;
import java.util.Map;
import java.util.Random;

/** Long mixed runs of calls, the same each time, on OverlayNet and on Model: no answer differs. */
public final class ModelRunsTest {
    private static final int RUNS = 60;
    private static final int CALLS = 400;

    private static final Map<String, Method> REAL = methodsOf(OverlayNet.class);
    private static final Map<String, Method> TOLD = methodsOf(Model.class);

    private final Random random;
    private final int run;
    private final OverlayNet real = new OverlayNet();
    private final Model told = new Model();
    private int machines;
    private int busiest;

    private ModelRunsTest(int run) {
        this.run = run;
        this.random = new Random(1000 + run);
    }

    public static void main(String[] args) {
        int busiest = 0;
        for (int run = 0; run < RUNS; run++) {
            ModelRunsTest test = new ModelRunsTest(run);
            test.play();
            busiest = Math.max(busiest, test.busiest);
        }
        Check.due("most packets on links in the runs", busiest, 60);
        Check.end();
    }

    private void play() {
        int start = random.nextInt(9);
        for (int i = 0; i < start; i++) {
            call("machine", random.nextInt(4), random.nextInt(4) / 2, random.nextInt(8));
        }
        for (int i = 0; i < CALLS && Check.wrong() < 20; i++) {
            change();
            if (random.nextInt(5) == 0) {
                look();
            }
        }
        look();
    }

    private void change() {
        // Some runs move machines often and seldom let time pass, so that the links fill up.
        boolean isRestless = run % 4 == 0;
        int dice = random.nextInt(isRestless ? 88 : 160);
        if (dice < 5) {
            call("machine", any(4), any(3), any(8));
        } else if (dice < (isRestless ? 50 : 15)) {
            call("move", any(machines), any(4));
        } else if (dice < 70) {
            call("send", any(machines), any(8), random.nextInt());
        } else if (dice < 76) {
            call("link", any(8), random.nextInt(3) > 0);
        } else if (dice < 80) {
            call("directory", random.nextBoolean());
        } else if (dice < 83) {
            call("lose", random.nextInt(8) - 1);
        } else {
            call("run", random.nextInt(40) == 0 ? random.nextInt(70) - 4 : 1 + random.nextInt(3));
        }
    }

    /** Mostly a number below the end, at times one that is just outside. */
    private int any(int end) {
        return random.nextInt(25) == 0 ? random.nextInt(2) * (end + 1) - 1 : random.nextInt(Math.max(1, end));
    }

    private void look() {
        call("now");
        call("packets");
        call("dropped");
        for (int node = -1; node <= 6; node++) {
            for (int leaf = -1; leaf <= 4; leaf++) {
                call("distance", node, leaf);
                call("hop", node, leaf, random.nextInt(4) - 1);
            }
        }
        busiest = Math.max(busiest, real.packets());
        call("header", -1, random.nextInt(10) - 1);
        for (int k = 0; k <= real.packets(); k++) {
            call("header", k, random.nextInt(10) - 1);
        }
        for (int m = -1; m <= machines; m++) {
            call("row", m);
            for (int other = -1; other <= 8; other++) {
                call("received", m, other);
                call("value", m, other);
                call("known", m, other);
            }
            for (int leaf = -1; leaf <= 4; leaf++) {
                call("entry", leaf, m, random.nextInt(5) - 1);
            }
        }
    }

    private void call(String name, Object... args) {
        String got = answer(REAL.get(name), real, args);
        String want = answer(TOLD.get(name), told, args);
        if (name.equals("machine") && !want.startsWith("throws")) {
            machines++;
        }
        Check.due("run " + run + ": " + name + Arrays.toString(args), got, want);
    }

    private static String answer(Method method, Object target, Object[] args) {
        try {
            return String.valueOf(method.invoke(target, args));
        } catch (InvocationTargetException e) {
            return "throws " + e.getCause().getClass().getName();
        } catch (IllegalAccessException e) {
            throw new AssertionError(e);
        }
    }

    private static Map<String, Method> methodsOf(Class<?> type) {
        Map<String, Method> found = new HashMap<>();
        for (Method method : type.getDeclaredMethods()) {
            if (java.lang.reflect.Modifier.isPublic(method.getModifiers())) {
                found.put(method.getName(), method);
            }
        }
        return found;
    }
}
