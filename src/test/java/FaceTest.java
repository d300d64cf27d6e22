import java.lang.reflect.Constructor;
import java.lang.reflect.Field;
import java.lang.reflect.Method;
import java.lang.reflect.Modifier;
import java.nio.file.Files;
import java.nio.file.Path;
import java.util.ArrayList;
import java.util.Arrays;
import java.util.List;
import java.util.TreeSet;
import java.util.regex.Pattern;

/** The document's face and what of LANGUAGE.md can be seen without reading. Runs in the project's folder. */
public final class FaceTest {
    private static final Due due = new Due();

    public static void main(String[] args) throws Exception {
        face();
        classesInside();
        words(Files.readString(Path.of("src/main/java/CacheBounds.java")));
        due.end("FaceTest");
    }

    private static void face() {
        due.is("NONE", CacheBounds.NONE, -1);
        due.is("BAD", CacheBounds.BAD, -2);
        due.is("NO", CacheBounds.NO, -3);
        due.is("FULL", CacheBounds.FULL, -4);
        due.holds("the class is final", Modifier.isFinal(CacheBounds.class.getModifiers()));
        TreeSet<String> shown = new TreeSet<>();
        for (Method method : CacheBounds.class.getDeclaredMethods()) {
            if (!Modifier.isPrivate(method.getModifiers()) && !method.isSynthetic()) {
                shown.add(method.getReturnType() + " " + method.getName() + Arrays.toString(method.getParameterTypes()));
            }
        }
        TreeSet<String> wanted = new TreeSet<>(List.of("long digest[]"));
        for (String name : "empties clear reads upper lower worst best ends many undo".split(" ")) {
            wanted.add("int " + name + "[]");
        }
        for (String name : "ways kind price look held type told sure runs ran count".split(" ")) {
            wanted.add("int " + name + "[int]");
        }
        for (String name : "of behind worstBy draws".split(" ")) {
            wanted.add("int " + name + "[int, int]");
        }
        due.holds("methods: " + shown, shown.equals(wanted));
        TreeSet<String> constants = new TreeSet<>();
        for (Field field : CacheBounds.class.getDeclaredFields()) {
            if (!Modifier.isPrivate(field.getModifiers())) {
                constants.add(field.getName());
            }
        }
        due.holds("constants: " + constants, constants.equals(new TreeSet<>(List.of("NONE", "BAD", "NO", "FULL"))));
        Constructor<?>[] constructors = CacheBounds.class.getDeclaredConstructors();
        due.is("constructors", constructors.length, 1);
        due.is("its parameters", constructors[0].getParameterCount(), 0);
    }

    private static void classesInside() {
        List<Class<?>> all = new ArrayList<>(List.of(CacheBounds.class.getDeclaredClasses()));
        due.holds("rule 11: at most twelve classes", all.size() + 1 <= 12);
        TreeSet<String> shown = new TreeSet<>();
        for (Method method : CacheBounds.class.getDeclaredMethods()) {
            if (Modifier.isPublic(method.getModifiers())) {
                shown.add(method.getName());
            }
        }
        for (Class<?> inside : all) {
            due.holds("rule 2: static " + inside, Modifier.isStatic(inside.getModifiers()));
            for (Method method : inside.getDeclaredMethods()) {
                due.holds("rule 1: another name than " + method, !shown.contains(method.getName()));
                due.holds("rule 11: parameters of " + method, method.getParameterCount() <= 7);
            }
        }
        all.add(CacheBounds.class);
        for (Class<?> each : all) {
            int fields = 0;
            for (Field field : each.getDeclaredFields()) {
                boolean fixed = Modifier.isStatic(field.getModifiers());
                due.holds("rule 5: " + field, !fixed || Modifier.isFinal(field.getModifiers()));
                fields += fixed ? 0 : 1;
            }
            due.holds("rule 11: fields of " + each, fields <= 20);
        }
    }

    private static void words(String source) {
        String code = source.replaceAll("(?s)/\\*.*?\\*/", "").replaceAll("//[^\n]*", "");
        for (String word : List.of("throw", "try", "catch", "synchronized", "assert", "package", "throws", "Object",
                "Random", "System\\.(?!arraycopy)", "->", "::", "\\w+Exact", "hashCode", "toString", "protected")) {
            String pattern = Character.isLetter(word.charAt(0)) ? "\\b" + word : word;
            pattern = Character.isLetter(word.charAt(word.length() - 1)) ? pattern + "\\b" : pattern;
            due.holds("rule 4, 6: no " + word, !Pattern.compile(pattern).matcher(code).find());
        }
        for (String line : code.split("\n")) {
            due.holds("the library: " + line, !line.startsWith("import") || line.equals("import java.util.Arrays;"));
        }
    }
}
