import java.lang.reflect.Method;
import java.nio.file.Files;
import java.nio.file.Path;
import java.util.Set;
import java.util.TreeSet;
import java.util.regex.Matcher;
import java.util.regex.Pattern;

/** README.md's calls answer what stands beside them, and it names every call. Runs in the project's directory. */
public final class ReadmeTest {
    private static final Pattern MADE = Pattern.compile("LooseMarks job = new LooseMarks\\((\\d+)\\);.*");
    private static final Pattern CALL = Pattern.compile("job\\.(\\w+)\\(([^)]*)\\); +// (-?\\d+)( .*)?");
    private static int wrong = 0;
    private static int asked = 0;

    private static void hold(boolean so, String what) {
        if (!so) {
            wrong++;
            System.out.println("not so: " + what);
        }
    }

    private static Method methodOf(String name) {
        for (Method method : LooseMarks.class.getMethods()) {
            if (method.getName().equals(name) && method.getDeclaringClass() == LooseMarks.class) {
                return method;
            }
        }
        throw new IllegalStateException("README.md has a call that there is not: " + name);
    }

    private static long answer(LooseMarks job, String name, String list) throws ReflectiveOperationException {
        Method method = methodOf(name);
        String[] texts = list.isEmpty() ? new String[0] : list.split(", ");
        Object[] numbers = new Object[texts.length];
        for (int i = 0; i < texts.length; i++) {
            boolean isLong = method.getParameterTypes()[i] == long.class;
            long number = Long.parseLong(texts[i].replace("L", ""));
            numbers[i] = isLong ? (Object) number : (Object) (int) number;
        }
        return ((Number) method.invoke(job, numbers)).longValue();
    }

    private static void readLine(LooseMarks job, String line) throws ReflectiveOperationException {
        Matcher call = CALL.matcher(line);
        if (!call.matches() || job == null) {
            hold(false, "a call with its answer: " + line);
            return;
        }
        asked++;
        long got = answer(job, call.group(1), call.group(2));
        hold(got == Long.parseLong(call.group(3)), line + " (answered " + got + ")");
    }

    private static void readBlocks(String page) throws ReflectiveOperationException {
        Matcher block = Pattern.compile("(?s)```java\n(.*?)```").matcher(page);
        while (block.find()) {
            LooseMarks job = null;
            for (String line : block.group(1).split("\n")) {
                Matcher made = MADE.matcher(line);
                if (made.matches()) {
                    job = new LooseMarks(Integer.parseInt(made.group(1)));
                } else {
                    readLine(job, line);
                }
            }
        }
    }

    private static void namesAll(String page) {
        Set<String> names = new TreeSet<>();
        for (Method method : LooseMarks.class.getMethods()) {
            if (method.getDeclaringClass() == LooseMarks.class) {
                names.add(method.getName());
            }
        }
        for (String name : names) {
            hold(page.contains("`" + name + "`"), "README.md names " + name);
        }
    }

    public static void main(String[] args) throws Exception {
        String page = Files.readString(Path.of("README.md"));
        readBlocks(page);
        namesAll(page);
        hold(asked > 20, "README.md has calls with answers");
        System.out.println(asked + " calls of README.md asked");
        System.out.println(wrong == 0 ? "all answers are as due" : wrong + " answers are not as due");
        if (wrong != 0) {
            System.exit(1);
        }
    }
}
