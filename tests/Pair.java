import java.lang.reflect.InvocationTargetException;
import java.lang.reflect.Method;
import java.util.ArrayList;
import java.util.HashMap;
import java.util.List;
import java.util.Map;

/** The class and the model side by side: every call goes to both, and both must answer alike. */
final class Pair {
    private static final Map<String, Method> REAL = methods(Tuninghouse.class);
    private static final Map<String, Method> MODEL = methods(Model.class);
    static int wrong = 0;
    static long calls = 0;
    static final Map<String, Integer> ANSWERS = new HashMap<>();

    private final Tuninghouse real = new Tuninghouse();
    private final Model model = new Model();
    private final List<String> run = new ArrayList<>();
    private final String title;

    Pair(String title) {
        this.title = title;
    }

    private static Map<String, Method> methods(Class<?> of) {
        Map<String, Method> all = new HashMap<>();
        for (Method m : of.getDeclaredMethods()) {
            if (java.lang.reflect.Modifier.isPublic(m.getModifiers())) {
                all.put(m.getName(), m);
            }
        }
        return all;
    }

    int length() {
        return run.size();
    }

    private static String outcome(Method m, Object on, Object[] args) {
        try {
            return String.valueOf(m.invoke(on, args));
        } catch (InvocationTargetException e) {
            return "throws." + e.getCause().getClass().getSimpleName();
        } catch (IllegalAccessException e) {
            throw new IllegalStateException(e);
        }
    }

    /** Calls both; returns the answer of the class. */
    String call(String name, Object... args) {
        calls++;
        String got = outcome(REAL.get(name), real, args);
        String due = outcome(MODEL.get(name), model, args);
        StringBuilder row = new StringBuilder(name).append(java.util.Arrays.toString(args)).append(" = ").append(got);
        run.add(row.toString());
        ANSWERS.merge(name + (got.startsWith("throws") ? " " + got : " answers"), 1, Integer::sum);
        if (!got.equals(due)) {
            wrong++;
            if (wrong <= 10) {
                System.out.println(title + ": " + row + ", due is " + due);
                for (String r : run.subList(Math.max(0, run.size() - 60), run.size())) {
                    System.out.println("    " + r);
                }
            }
        }
        return got;
    }

    void text(String s) {
        call("clearText");
        for (int i = 0; i < s.length(); i += 8) {
            long bytes = 0;
            for (int k = i; k < Math.min(s.length(), i + 8); k++) {
                bytes = bytes << 8 | s.charAt(k) & 255;
            }
            call("type", bytes);
        }
    }

    /** Puts an interval with any exponents into a register, by way of another register. */
    void put(int register, int by, int root, int... exponents) {
        int[] primes = {2, 3, 5, 7, 11, 13};
        call("fraction", register, 1, 1);
        for (int i = 0; i < exponents.length; i++) {
            int e = exponents[i];
            if (e / 100 != 0) {
                call("fraction", by, primes[i], 1);
                call("times", by, 100, 1);
                call("times", by, e / 100, 1);
                call("sum", register, register, by, false);
            }
            if (e % 100 != 0) {
                call("fraction", by, primes[i], 1);
                call("times", by, e % 100, 1);
                call("sum", register, register, by, false);
            }
        }
        for (int rest = root, d = 24; rest > 1 && d > 1; d--) {
            while (rest % d == 0) {
                call("times", register, 1, d);
                rest /= d;
            }
        }
    }

    /** Asks all that can be asked without changing anything. */
    void askAll() {
        for (int r = 0; r < 8; r++) {
            for (int p = 0; p < 6; p++) {
                call("exponent", r, p);
            }
            call("root", r);
            call("nameOf", r);
            call("namesBelow", r);
        }
        for (int s = 0; s < 4; s++) {
            int n = Integer.parseInt(call("tones", s));
            call("gapSorts", s);
            call("symmetry", s);
            call("evenness", s);
            for (int i = 0; i < n; i++) {
                call("sizeOf", s, i, false);
                call("sizeOf", s, i, true);
                call("gapSort", s, i);
            }
        }
        for (int k = 0; k < 12; k++) {
            call("impurity", k, 6);
            call("pure", k);
        }
        call("closes");
        call("meanImpurity");
        call("moves");
        call("told");
        call("errorPlace");
        call("errors");
    }
}
