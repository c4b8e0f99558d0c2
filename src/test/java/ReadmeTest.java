import java.lang.reflect.Method;
import java.lang.reflect.Modifier;
import java.nio.file.Files;
import java.nio.file.Path;
import java.util.regex.Matcher;
import java.util.regex.Pattern;

/** The calls that README.md shows answer what is written behind them, and it names each call of the face. */
public final class ReadmeTest {
    private static final int LEAST_CALLS = 10;
    private static int wrong;

    public static void main(String[] args) throws Exception {
        String readme = Files.readString(Path.of("README.md"));
        shownCalls(readme);
        namedCalls(readme);
        System.out.println("ReadmeTest: " + (wrong == 0 ? "all is as due" : wrong + " wrong"));
        if (wrong != 0) {
            System.exit(1);
        }
    }

    private static void check(boolean right, String what) {
        if (!right) {
            wrong++;
            System.out.println("README: " + what);
        }
    }

    private static void shownCalls(String readme) throws Exception {
        int from = readme.indexOf("```java");
        String block = readme.substring(from, readme.indexOf("```", from + 3));
        Pattern form = Pattern.compile("queue\\.(\\w+)\\(([^)]*)\\); +// (-?\\d+):.*");
        HomesQueue queue = new HomesQueue();
        int calls = 0;
        for (String line : block.split("\n")) {
            if (!line.startsWith("queue.")) {
                continue;
            }
            Matcher m = form.matcher(line);
            check(m.matches(), "no answer behind " + line);
            if (m.matches()) {
                int got = answer(queue, m.group(1), m.group(2).split(", *"));
                check(got == Integer.parseInt(m.group(3)), line + " answered " + got);
                calls++;
            }
        }
        check(calls >= LEAST_CALLS, "shows " + calls + " calls");
    }

    private static int answer(HomesQueue queue, String name, String[] written) throws Exception {
        for (Method method : HomesQueue.class.getDeclaredMethods()) {
            if (Modifier.isPublic(method.getModifiers()) && method.getName().equals(name)) {
                Object[] arguments = new Object[method.getParameterCount()];
                for (int i = 0; i < arguments.length; i++) {
                    boolean flag = method.getParameterTypes()[i] == boolean.class;
                    arguments[i] = flag ? (Object) Boolean.valueOf(written[i]) : (Object) Integer.decode(written[i]);
                }
                return (int) method.invoke(queue, arguments);
            }
        }
        throw new IllegalArgumentException("no call " + name);
    }

    private static void namedCalls(String readme) {
        for (Method method : HomesQueue.class.getDeclaredMethods()) {
            String name = method.getName();
            boolean named = readme.contains("`" + name + "`") || readme.contains(name + "(");
            check(!Modifier.isPublic(method.getModifiers()) || named, name + "() is not named");
        }
    }
}
