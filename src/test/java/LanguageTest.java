import java.lang.reflect.Constructor;
import java.lang.reflect.Executable;
import java.lang.reflect.Field;
import java.lang.reflect.Method;
import java.lang.reflect.Modifier;
import java.nio.file.Files;
import java.nio.file.Path;
import java.util.ArrayList;
import java.util.Arrays;
import java.util.List;
import java.util.Set;
import java.util.TreeSet;
import java.util.regex.Matcher;
import java.util.regex.Pattern;

/** The rules of LANGUAGE.md that a look at the source and at the classes can tell; the face is the document's. */
public final class LanguageTest {
    private static int wrong;

    public static void main(String[] args) throws Exception {
        List<String> lines = Files.readAllLines(Path.of("src/main/java/HomesQueue.java"));
        face(Files.readString(Path.of("../shared/DOC.md")));
        classes();
        words(lines);
        lengths(lines);
        System.out.println("LanguageTest: " + (wrong == 0 ? "all is as due" : wrong + " wrong"));
        if (wrong != 0) {
            System.exit(1);
        }
    }

    private static void check(boolean right, String what) {
        if (!right) {
            wrong++;
            System.out.println("LANGUAGE: " + what);
        }
    }

    private static String signature(String name, Class<?>[] types) {
        List<String> names = new ArrayList<>();
        for (Class<?> type : types) {
            names.add(type.getSimpleName());
        }
        return name + "(" + String.join(",", names) + ")";
    }

    /** Rule 1. */
    private static void face(String document) {
        Set<String> due = new TreeSet<>();
        String block = document.substring(document.indexOf("```java"), document.indexOf("## Terms"));
        Matcher m = Pattern.compile("public int (\\w+)\\(([^)]*)\\)").matcher(block);
        while (m.find()) {
            due.add(m.group(1) + "(" + m.group(2).replaceAll(" \\w+(,|$) ?", "$1") + ")");
        }
        Set<String> got = new TreeSet<>();
        Set<String> names = new TreeSet<>();
        for (Method method : HomesQueue.class.getDeclaredMethods()) {
            if (Modifier.isPublic(method.getModifiers())) {
                got.add(signature(method.getName(), method.getParameterTypes()));
                names.add(method.getName());
                check(method.getReturnType() == int.class, method + " gives no int");
            } else {
                check(Modifier.isPrivate(method.getModifiers()), method + " is neither private nor of the face");
            }
        }
        check(due.size() == 47 && due.equals(got), "the face is " + got + ", due is " + due);
        for (Class<?> type : all()) {
            for (Method method : type.getDeclaredMethods()) {
                boolean hidden = Modifier.isPrivate(method.getModifiers());
                check(!hidden || !names.contains(method.getName()), method + " bears a name of the face");
            }
        }
        for (Field field : HomesQueue.class.getDeclaredFields()) {
            boolean none = field.getName().equals("NONE");
            check(Modifier.isPrivate(field.getModifiers()) || none, field + " is not private");
        }
        Constructor<?>[] made = HomesQueue.class.getDeclaredConstructors();
        check(made.length == 1 && made[0].getParameterCount() == 0, "one constructor without arguments");
        check(Modifier.isFinal(HomesQueue.class.getModifiers()), "the class is final");
    }

    private static List<Class<?>> all() {
        List<Class<?>> types = new ArrayList<>(Arrays.asList(HomesQueue.class.getDeclaredClasses()));
        types.add(HomesQueue.class);
        return types;
    }

    /** Rules 2, 5, 11. */
    private static void classes() {
        check(all().size() <= 12, all().size() + " classes");
        for (Class<?> type : all()) {
            check(Modifier.isStatic(type.getModifiers()) || type == HomesQueue.class, type + " is not static");
            int fields = 0;
            for (Field field : type.getDeclaredFields()) {
                boolean fixed = Modifier.isStatic(field.getModifiers());
                check(!fixed || Modifier.isFinal(field.getModifiers()), field + " is static and not final");
                fields += fixed ? 0 : 1;
            }
            check(fields <= 20, type + " has " + fields + " fields");
            List<Executable> bodies = new ArrayList<>(Arrays.asList(type.getDeclaredMethods()));
            bodies.addAll(Arrays.asList(type.getDeclaredConstructors()));
            for (Executable body : bodies) {
                check(body.getParameterCount() <= 7, body + " takes too many");
            }
        }
    }

    /** Rules 2, 4, 6, 10, 12. */
    private static void words(List<String> lines) {
        Pattern banned = Pattern.compile("\\b(try|catch|finally|synchronized|assert|System\\.out|getMessage|Thread|"
                + "Random|HashMap|Scanner|Object|equals|hashCode|toString|Exact|printStackTrace|String\\.format)\\b|::");
        for (int i = 0; i < lines.size(); i++) {
            String line = lines.get(i).trim();
            String at = "line " + (i + 1) + ": " + line;
            boolean comment = line.startsWith("*") || line.startsWith("/") || line.startsWith("//");
            check(line.chars().allMatch(c -> c >= 32 && c < 127), at);
            check(lines.get(i).length() <= 120, at + " is too long");
            if (comment) {
                continue;
            }
            check(!banned.matcher(line).find(), at);
            check(!line.startsWith("import ") || line.equals("import java.util.NoSuchElementException;"), at);
            check(!line.contains("->") || line.startsWith("case ") || line.startsWith("default ->"), at);
            boolean thrown = line.startsWith("throw new NoSuchElementException(");
            check(!line.contains("throw ") || thrown, at);
        }
    }

    /** Rule 11: methods of some sixty lines at most. */
    private static void lengths(List<String> lines) {
        Pattern head = Pattern.compile("( {4}| {8})(?! )[\\w\\[\\]. ]+\\([^;]*\\) (throws \\w+ )?\\{");
        for (int i = 0; i < lines.size(); i++) {
            Matcher m = head.matcher(lines.get(i));
            if (m.matches()) {
                int end = i;
                while (end < lines.size() && !lines.get(end).equals(m.group(1) + "}")) {
                    end++;
                }
                check(end - i < 60, "line " + (i + 1) + " begins a method of " + (end - i) + " lines");
            }
        }
    }
}
