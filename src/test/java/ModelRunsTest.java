import java.lang.reflect.InvocationTargetException;
import java.lang.reflect.Method;
import java.util.Arrays;
import java.util.HashMap;
import java.util.Map;
import java.util.Random;

/** Long mixed runs of calls, the same each time, on OverlayNet and on Model: no answer differs. */
public final class ModelRunsTest {
    private static final int RUNS = 800;
    /** An object is used for at most 512 calls. */
    private static final int CALLS = 512;
    private static final int CALLS_WITH_CHANGES = 400;

    private static final Map<String, Method> REAL = methodsOf(OverlayNet.class);
    private static final Map<String, Method> TOLD = methodsOf(Model.class);

    private final Random random;
    private final int run;
    private final OverlayNet real = new OverlayNet();
    private final Model told = new Model();
    private int calls;
    private int machines;
    private int busiest;

    private ModelRunsTest(int run) {
        this.run = run;
        this.random = new Random(1000 + run);
    }

    public static void main(String[] args) {
        int busiest = 0;
        for (int run = 0; run < RUNS && Check.wrong() < 20; run++) {
            ModelRunsTest test = new ModelRunsTest(run);
            test.play();
            busiest = Math.max(busiest, test.busiest);
        }
        Check.due("most packets on links in the runs", busiest, 60);
        Check.end();
    }

    private void play() {
        int start = random.nextInt(9);
        for (int i = 0; i < start; i++) {
            call("machine", random.nextInt(4), random.nextInt(4) / 2, random.nextInt(8));
        }
        while (calls < CALLS_WITH_CHANGES) {
            change();
            if (random.nextInt(3) == 0) {
                look();
            }
        }
        while (calls < CALLS - 1) {
            look();
        }
    }

    private void change() {
        // Some runs move machines often and seldom let time pass, so that the links fill up.
        boolean isRestless = run % 4 == 0;
        int dice = random.nextInt(isRestless ? 88 : 160);
        if (dice < 5) {
            call("machine", any(4), any(3), any(8));
        } else if (dice < (isRestless ? 50 : 15)) {
            call("move", any(machines), any(4));
        } else if (dice < 70) {
            call("send", any(machines), any(8), random.nextInt());
        } else if (dice < 76) {
            call("link", any(8), random.nextInt(3) > 0);
        } else if (dice < 80) {
            call("directory", random.nextBoolean());
        } else if (dice < 83) {
            call("lose", random.nextInt(8) - 1);
        } else {
            call("run", random.nextInt(40) == 0 ? random.nextInt(70) - 4 : 1 + random.nextInt(3));
        }
    }

    /** Mostly a number below the end, at times one that is just outside. */
    private int any(int end) {
        return random.nextInt(25) == 0 ? random.nextInt(2) * (end + 1) - 1 : random.nextInt(Math.max(1, end));
    }

    /** One call that changes nothing, or two. */
    private void look() {
        switch (random.nextInt(11)) {
            case 0 -> call("now");
            case 1 -> call("dropped");
            case 2 -> call("distance", any(6), any(4));
            case 3 -> call("hop", any(6), any(4), any(3));
            case 4 -> call("entry", any(4), any(machines), any(3));
            case 5 -> call("known", any(machines), any(8));
            case 6 -> call("row", any(machines));
            case 7 -> call("received", any(machines), any(machines));
            case 8 -> call("value", any(machines), any(machines));
            default -> lookAtPackets();
        }
    }

    private void lookAtPackets() {
        int packets = Integer.parseInt(call("packets"));
        busiest = Math.max(busiest, packets);
        call("header", any(packets), any(8));
    }

    private String call(String name, Object... args) {
        calls++;
        String got = answer(REAL.get(name), real, args);
        String want = answer(TOLD.get(name), told, args);
        if (name.equals("machine") && !want.startsWith("throws")) {
            machines++;
        }
        Check.due("run " + run + ": " + name + Arrays.toString(args), got, want);
        return want;
    }

    private static String answer(Method method, Object target, Object[] args) {
        try {
            return String.valueOf(method.invoke(target, args));
        } catch (InvocationTargetException e) {
            return "throws " + e.getCause().getClass().getName();
        } catch (IllegalAccessException e) {
            throw new AssertionError(e);
        }
    }

    private static Map<String, Method> methodsOf(Class<?> type) {
        Map<String, Method> found = new HashMap<>();
        for (Method method : type.getDeclaredMethods()) {
            if (java.lang.reflect.Modifier.isPublic(method.getModifiers())) {
                found.put(method.getName(), method);
            }
        }
        return found;
    }
}
