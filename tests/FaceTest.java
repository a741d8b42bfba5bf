import java.io.IOException;
import java.lang.reflect.Constructor;
import java.lang.reflect.Field;
import java.lang.reflect.Method;
import java.lang.reflect.Modifier;
import java.nio.file.Files;
import java.nio.file.Path;
import java.util.HashSet;
import java.util.List;
import java.util.Set;
import java.util.regex.Matcher;
import java.util.regex.Pattern;

/** The face against the document, and what of LANGUAGE.md can be seen from the source and the classes. */
public final class FaceTest {
    private static int wrong = 0;

    private static void need(boolean holds, String what) {
        if (!holds) {
            wrong++;
            System.out.println(what);
        }
    }

    public static void main(String[] args) throws IOException {
        String source = Files.readString(Path.of("src/main/java/Tuninghouse.java"));
        face(source, Files.readString(Path.of("../shared/DOC.md")));
        members(Tuninghouse.class, true);
        for (Class<?> inside : Tuninghouse.class.getDeclaredClasses()) {
            need(Modifier.isStatic(inside.getModifiers()) && !Modifier.isPublic(inside.getModifiers()) && !Modifier.isProtected(inside.getModifiers()),
                inside + " is not static, or is seen from outside");
            members(inside, false);
        }
        need(Tuninghouse.class.getDeclaredClasses().length <= 11, "more than some twelve classes");
        words(source);
        lengths(source);
        System.out.println(wrong == 0 ? "the face and the rules hold" : wrong + " faults");
        if (wrong != 0) {
            System.exit(1);
        }
    }

    private static void face(String source, String doc) {
        int start = doc.indexOf("public final class Tuninghouse {");
        String block = doc.substring(start, doc.indexOf("```", start));
        int count = 0;
        for (String line : block.split("\n")) {
            if (line.startsWith("    public ")) {
                count++;
                boolean isField = line.contains("=");
                need(source.contains("\n" + (isField ? line : line.replace(";", " {"))), "not in the source: " + line);
            }
        }
        Matcher m = Pattern.compile("(?m)^    (public|protected|static|final|int|long|boolean|void|float|double)\\b").matcher(source);
        int found = 0;
        while (m.find()) {
            found++;
        }
        need(found == count, found + " members that are seen from outside, the document has " + count);
        need(Modifier.isFinal(Tuninghouse.class.getModifiers()) && Modifier.isPublic(Tuninghouse.class.getModifiers()), "not public and final");
    }

    private static void members(Class<?> of, boolean isFace) {
        Set<String> names = new HashSet<>();
        for (Method m : Tuninghouse.class.getDeclaredMethods()) {
            if (Modifier.isPublic(m.getModifiers())) {
                names.add(m.getName());
            }
        }
        int fields = 0;
        for (Field f : of.getDeclaredFields()) {
            boolean isStatic = Modifier.isStatic(f.getModifiers());
            fields += isStatic ? 0 : 1;
            need(!isStatic || Modifier.isFinal(f.getModifiers()), f + " is static and changes");
            need(!isFace || Modifier.isPrivate(f.getModifiers()) || Modifier.isPublic(f.getModifiers()), f + " is seen from outside");
        }
        need(fields <= 20, of + " has " + fields + " fields");
        for (Method m : of.getDeclaredMethods()) {
            boolean isPublic = Modifier.isPublic(m.getModifiers());
            need(isFace && isPublic || !names.contains(m.getName()), m + " bears the name of a public method");
            need(!isFace || isPublic || Modifier.isPrivate(m.getModifiers()), m + " is seen from outside");
            need(m.getParameterCount() <= 7, m + " has too many parameters");
            need(!List.of("equals", "hashCode", "toString").contains(m.getName()), m + " may not be");
            need(!m.isSynthetic(), m + " is made by the compiler");
        }
        for (Constructor<?> c : of.getDeclaredConstructors()) {
            need(c.getParameterCount() <= 7, c + " has too many parameters");
        }
    }

    private static void words(String source) {
        String code = source.replaceAll("(?s)/\\*.*?\\*/", " ").replaceAll("//[^\n]*", " ").replaceAll("\"[^\"\n]*\"", "\"\"");
        String[] forbidden = {"->", "::", "\\bcatch\\b", "\\btry\\b", "\\bfinally\\b", "\\bsynchronized\\b", "\\bassert\\b", "\\bvolatile\\b", "\\bnative\\b",
            "\\btransient\\b", "\\bprotected\\b", "static\\s*\\{", "@", "\\bThread\\b", "\\bObject\\b", "\\bvar\\b", "Exact\\b", "\\bpackage\\b", "\\bgoto\\b"};
        for (String word : forbidden) {
            need(!Pattern.compile(word).matcher(code).find(), "in the source: " + word);
        }
        Matcher m = Pattern.compile("(?m)^import (.*);").matcher(code);
        while (m.find()) {
            need(m.group(1).equals("java.util.NoSuchElementException"), "import of " + m.group(1));
        }
        m = Pattern.compile("\\b(Math|Long|Integer|System|Arrays|String)\\.(\\w+)").matcher(code);
        Set<String> allowed = Set.of("Math.max", "Math.min", "Math.abs", "Math.floorDiv", "Math.floorMod", "Long.compare", "System.arraycopy");
        while (m.find()) {
            need(allowed.contains(m.group()), "not in the library that is allowed: " + m.group());
        }
        m = Pattern.compile("throw new (\\w+)\\(").matcher(code);
        Set<String> exceptions = Set.of("IllegalStateException", "IllegalArgumentException", "IndexOutOfBoundsException", "ArithmeticException", "NoSuchElementException");
        while (m.find()) {
            need(exceptions.contains(m.group(1)), "throws " + m.group(1));
        }
        for (int i = 0; i < source.length(); i++) {
            need(source.charAt(i) < 128, "a sign above 127 at " + i);
        }
    }

    private static void lengths(String source) {
        String[] lines = source.split("\n");
        int start = -1;
        for (int i = 0; i < lines.length; i++) {
            if (lines[i].matches("^(    |        )(\\w.*)\\) ?(throws .*)?\\{$") && !lines[i].contains(" class ")) {
                start = i;
            }
            if (start >= 0 && lines[i].matches("^(    |        )\\}$")) {
                need(i - start < 60, "a method of " + (i - start) + " lines at line " + (start + 1));
                start = -1;
            }
            need(lines[i].length() <= 200, "a long line: " + (i + 1));
        }
    }
}
