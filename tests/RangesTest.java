import java.lang.reflect.InvocationTargetException;
import java.lang.reflect.Method;
import java.util.ArrayList;
import java.util.List;
import java.util.Map;
import java.util.Set;
import java.util.regex.Matcher;
import java.util.regex.Pattern;

/**
 * Every number that DOC.md gives a range: the least and the greatest are taken, one less, one more and the far ends are
 * refused, with the exception of section 9; of two numbers out of range the one listed first is told.
 */
final class RangesTest {
    private static final class Parameter {
        String name;
        String rule;
        long low;
        long high;
        Class<? extends RuntimeException> refusal;
    }

    private static final class Face {
        int promise;
        Method method;
        final List<Parameter> parameters = new ArrayList<>();
        final List<String> exceptions = new ArrayList<>();
    }

    private static final Set<String> PLACES = Set.of("register", "into", "first", "second", "scale", "step", "fifth", "prime", "which", "place");
    /** Answers for every name of a parameter in a house as this test makes it. */
    private static final Map<String, Object> PLAIN = Map.ofEntries(
        Map.entry("over", 3), Map.entry("under", 2), Map.entry("many", 1), Map.entry("parts", 12), Map.entry("into", 5), Map.entry("first", 1),
        Map.entry("second", 2), Map.entry("isLess", true), Map.entry("times", 2), Map.entry("name", 3), Map.entry("scale", 1), Map.entry("from", -1),
        Map.entry("step", 1), Map.entry("key", 1), Map.entry("fifth", 1), Map.entry("prime", 1), Map.entry("digits", 3), Map.entry("way", 2),
        Map.entry("which", 0), Map.entry("what", 0), Map.entry("index", 1), Map.entry("most", 12), Map.entry("three", 4), Map.entry("five", 1),
        Map.entry("chord", 255), Map.entry("swings", 440), Map.entry("n", 3), Map.entry("m", 2), Map.entry("length", 600), Map.entry("places", 12),
        Map.entry("beats", 1), Map.entry("place", 1), Map.entry("register", 0), Map.entry("isDown", true), Map.entry("isIn", true),
        Map.entry("isGap", true), Map.entry("bytes", 0x66L));
    private static final int[] FAR = {Integer.MIN_VALUE, Integer.MAX_VALUE};

    private RangesTest() {
    }

    static void all() {
        int ranges = 0;
        for (int promise = 2; promise <= 55; promise++) {
            Face face = face(promise);
            for (int i = 0; i < face.parameters.size(); i++) {
                Parameter p = face.parameters.get(i);
                if (p.refusal == null) {
                    continue;
                }
                ranges++;
                Doc.quote(promise, "- `" + p.name + "`: " + p.rule);
                edges(face, i);
                for (int k = i + 1; k < face.parameters.size(); k++) {
                    if (face.parameters.get(k).refusal != null) {
                        bothWrong(face, i, k);
                    }
                }
            }
            quoteRefusals(face);
        }
        Check.due("ranges", ranges, 92);
    }

    private static void quoteRefusals(Face face) {
        for (Parameter p : face.parameters) {
            String told = p.refusal == null ? "" : "Throws `" + p.refusal.getSimpleName() + "` see section 9";
            if (Doc.statement(face.promise, told) != null && !told.isEmpty()) {
                Doc.quote(face.promise, told);
                refusedTwice(face, p);
            }
        }
    }

    /** One wrong number, and the call behind it still answers. */
    private static void refusedTwice(Face face, Parameter p) {
        Tuninghouse x = house();
        Object[] args = plain(face);
        args[face.parameters.indexOf(p)] = (int) p.low - 1;
        Check.due(show(face, args), outcome(face, x, args), p.refusal.getSimpleName());
        Object[] good = plain(face);
        Check.due(show(face, good) + " is taken", isTaken(outcome(face, x, good)), true);
    }

    private static void edges(Face face, int at) {
        Parameter p = face.parameters.get(at);
        Check.due(show(face, plain(face)) + " is taken", isTaken(outcome(face, house(), plain(face))), true);
        for (long taken : new long[] {p.low, p.high}) {
            Object[] args = plain(face);
            args[at] = (int) taken;
            String got = outcome(face, house(), args);
            Check.due(show(face, args) + " answered " + got + "; is taken", isTaken(got), true);
        }
        List<Integer> wrong = new ArrayList<>(List.of((int) p.low - 1, FAR[0]));
        if (p.high < FAR[1]) {
            wrong.add((int) p.high + 1);
            wrong.add(FAR[1]);
        }
        for (int w : wrong) {
            Object[] args = plain(face);
            args[at] = w;
            refused(face, args, p.refusal.getSimpleName());
        }
    }

    private static void bothWrong(Face face, int one, int two) {
        Parameter p = face.parameters.get(one);
        Parameter q = face.parameters.get(two);
        int first = face.exceptions.indexOf(p.refusal.getSimpleName());
        int second = face.exceptions.indexOf(q.refusal.getSimpleName());
        Check.due("both are listed", first >= 0 && second >= 0, true);
        String due = face.exceptions.get(Math.min(first, second));
        for (int end : FAR) {
            Object[] args = plain(face);
            args[one] = p.high == FAR[1] ? FAR[0] : end;
            args[two] = q.high == FAR[1] ? FAR[0] : -1 - end;
            refused(face, args, due);
        }
    }

    /** It is refused, and nothing is different then, nor what an undo brings back. */
    private static void refused(Face face, Object[] args, String due) {
        Tuninghouse x = house();
        String before = Check.all(x);
        Check.due(show(face, args), outcome(face, x, args), due);
        Check.due(show(face, args) + " and then all that can be asked", Check.all(x), before);
        Check.due(show(face, args) + " and then undo", x.undo(), 7);
        Check.due(show(face, args) + " and then the name", x.nameOf(0), 8);
    }

    private static boolean isTaken(String outcome) {
        return !outcome.equals("IndexOutOfBoundsException") && !outcome.equals("IllegalArgumentException");
    }

    private static String outcome(Face face, Tuninghouse x, Object[] args) {
        try {
            return String.valueOf(face.method.invoke(x, args));
        } catch (InvocationTargetException e) {
            return e.getCause().getClass().getSimpleName();
        } catch (IllegalAccessException e) {
            throw new IllegalStateException(e);
        }
    }

    private static String show(Face face, Object[] args) {
        return face.method.getName() + java.util.Arrays.toString(args);
    }

    private static Object[] plain(Face face) {
        return face.parameters.stream().map(p -> PLAIN.get(p.name)).toArray();
    }

    /** All that the plain numbers need: 60 moves, seven tones in each scale, told numbers, a text, and more than 8 changes. */
    private static Tuninghouse house() {
        Tuninghouse x = Make.house("3/2", "81/80", "25/24", "5/4");
        for (int s = 0; s < 4; s++) {
            x.row(s, 0, -1, 7);
        }
        Make.tune(x, 0, 60);
        x.tell(0);
        Check.put(x, "fifth");
        x.giveName(0, 8);
        x.giveName(0, 9);
        return x;
    }

    private static Face face(int promise) {
        Face face = new Face();
        face.promise = promise;
        Matcher m = Pattern.compile("`\\w+ (\\w+)\\((.*?)\\)(?: throws ([\\w, ]+))?`: .*").matcher(Doc.statement(promise, "`"));
        if (!m.matches()) {
            throw new IllegalStateException("promise " + promise);
        }
        for (Method method : Tuninghouse.class.getDeclaredMethods()) {
            if (method.getName().equals(m.group(1))) {
                face.method = method;
            }
        }
        if (m.group(3) != null) {
            face.exceptions.addAll(List.of(m.group(3).split(", ")));
        }
        for (String part : m.group(2).isEmpty() ? new String[0] : m.group(2).split(", ")) {
            face.parameters.add(parameter(face, part.split(" ")));
        }
        return face;
    }

    private static Parameter parameter(Face face, String[] typeAndName) {
        Parameter p = new Parameter();
        p.name = typeAndName[1];
        String statement = Doc.statement(face.promise, "- `" + p.name + "`: ");
        p.rule = statement.substring(statement.indexOf(": ") + 2);
        if (!typeAndName[0].equals("int")) {
            return p;
        }
        boolean isPlace = PLACES.contains(p.name) || p.name.equals("key") && face.method.getName().equals("impurity");
        p.refusal = isPlace ? IndexOutOfBoundsException.class : IllegalArgumentException.class;
        putRange(face, p);
        return p;
    }

    private static void putRange(Face face, Parameter p) {
        Matcher m = Pattern.compile("(?:.*, (?:or |as bits, ))?(-?\\d+) to (-?\\d+)(?:, .*)?").matcher(p.rule);
        if (m.matches()) {
            p.low = p.rule.startsWith("0 if all") ? 0 : Integer.parseInt(m.group(1));
            p.high = Integer.parseInt(m.group(2));
            return;
        }
        p.high = switch (face.method.getName() + "." + p.name) {
            case "mode.step", "sizeOf.step", "gapSort.step" -> 6;
            case "cents.way", "toldAt.what" -> 2;
            case "toldAt.which" -> 1;
            case "nearest.index" -> FAR[1];
            case "rhythm.beats", "unlike.many" -> 12;
            default -> throw new IllegalStateException(face.method.getName() + " has no range for " + p.name);
        };
    }
}
