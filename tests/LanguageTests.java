import java.io.IOException;
import java.lang.reflect.Constructor;
import java.lang.reflect.Field;
import java.lang.reflect.Member;
import java.lang.reflect.Method;
import java.lang.reflect.Modifier;
import java.nio.file.Files;
import java.nio.file.Path;
import java.util.ArrayList;
import java.util.List;
import java.util.Set;
import java.util.TreeSet;
import java.util.regex.Matcher;
import java.util.regex.Pattern;

/** Those rules of ../shared/LANGUAGE.md that can be seen from the file's text or from the class. */
public final class LanguageTests {
    private static int wrong = 0;

    private static void miss(String what) {
        wrong++;
        System.out.println(what);
    }

    /** The file without comments and with empty texts. */
    private static String bare(String source) {
        String s = source.replaceAll("(?s)/\\*.*?\\*/", " ").replaceAll("//[^\n]*", " ");
        return s.replaceAll("\"[^\"\n]*\"", "\"\"").replaceAll("'[^'\n]+'", "' '");
    }

    private static void words(String bare) {
        for (String no : List.of("->", "::", "finally", "synchronized", "assert", "instanceof", "catch", "Exact(", "System.out",
            "System.nano", "System.current", "double", "float", "Thread", "Random", "static {", "\" +", "+ \"", "protected")) {
            if (bare.contains(no)) {
                miss("the file says " + no);
            }
        }
        Matcher m = Pattern.compile("import ([^;]*);").matcher(bare);
        while (m.find()) {
            if (!Set.of("java.util.Arrays", "java.util.NoSuchElementException").contains(m.group(1))) {
                miss("imports " + m.group(1));
            }
        }
        m = Pattern.compile("\\b(System|Math|Integer|Long|Arrays)\\.([a-zA-Z]+)").matcher(bare);
        while (m.find()) {
            if (!Set.of("arraycopy", "max", "min", "bitCount", "fill").contains(m.group(2))) {
                miss("uses " + m.group());
            }
        }
        m = Pattern.compile("throw new ([A-Za-z]+)").matcher(bare);
        while (m.find()) {
            if (!Set.of("IllegalStateException", "IllegalArgumentException", "IndexOutOfBoundsException",
                "NoSuchElementException").contains(m.group(1))) {
                miss("throws " + m.group(1));
            }
        }
        for (int i = 0; i < bare.length(); i++) {
            if (bare.charAt(i) > 126) {
                miss("a sign above 126 at " + i);
            }
        }
    }

    private static void methods(String bare) {
        Pattern head = Pattern.compile("(?m)^( {4}| {8})(?! )[^=;\n]*\\(([^)\n]*)\\)[^;\n]*\\{$");
        String[] lines = bare.split("\n", -1);
        for (int i = 0; i < lines.length; i++) {
            Matcher m = head.matcher(lines[i]);
            if (!m.matches() || lines[i].trim().matches("(if|for|while|switch|do)\\b.*")) {
                continue;
            }
            int end = i;
            while (!lines[end].equals(m.group(1) + "}")) {
                end++;
            }
            if (end - i + 1 > 60) {
                miss("line " + (i + 1) + ": a method of " + (end - i + 1) + " lines");
            }
            if (m.group(2).split(",").length > 7) {
                miss("line " + (i + 1) + ": more than seven parameters");
            }
        }
    }

    private static void members() {
        Set<String> face = new TreeSet<>();
        for (Method m : SnowKeeps.class.getDeclaredMethods()) {
            if (Modifier.isPublic(m.getModifiers())) face.add(m.getName());
        }
        List<Class<?>> classes = new ArrayList<>(List.of(SnowKeeps.class.getDeclaredClasses()));
        if (classes.size() > 12) {
            miss(classes.size() + " classes inside");
        }
        for (Class<?> c : classes) {
            if (!Modifier.isStatic(c.getModifiers()) || Modifier.isPublic(c.getModifiers())) miss(c + " is not static, or public");
            for (Method m : c.getDeclaredMethods()) {
                if (face.contains(m.getName())) miss(c + " has a method with a name of the face: " + m.getName());
            }
        }
        classes.add(SnowKeeps.class);
        for (Class<?> c : classes) {
            int fields = 0;
            for (Field f : c.getDeclaredFields()) {
                if (!Modifier.isStatic(f.getModifiers())) fields++;
                if (Modifier.isStatic(f.getModifiers()) && !Modifier.isFinal(f.getModifiers())) miss(f + " is static and not final");
            }
            if (fields > 20) miss(c + " has " + fields + " fields");
        }
        List<Member> own = new ArrayList<>(List.of(SnowKeeps.class.getDeclaredMethods()));
        own.addAll(List.of(SnowKeeps.class.getDeclaredFields()));
        for (Constructor<?> c : SnowKeeps.class.getDeclaredConstructors()) own.add(c);
        int constants = 0;
        for (Member m : own) {
            boolean isPublic = Modifier.isPublic(m.getModifiers());
            if (!isPublic && !Modifier.isPrivate(m.getModifiers())) miss(m + " is neither public nor private");
            if (isPublic && m instanceof Field) constants++;
            if (!isPublic && m instanceof Method && face.contains(m.getName())) miss(m + " bears a name of the face");
        }
        if (constants != 2) miss(constants + " public constants");
        if (!Modifier.isFinal(SnowKeeps.class.getModifiers())) miss("the class is not final");
    }

    public static void main(String[] args) throws IOException {
        String bare = bare(Files.readString(Path.of("src/main/java/SnowKeeps.java")));
        words(bare);
        methods(bare);
        members();
        System.out.println(wrong == 0 ? "the language is kept to" : wrong + " rules are broken");
        if (wrong != 0) System.exit(1);
    }
}
