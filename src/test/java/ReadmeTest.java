import java.io.IOException;
import java.lang.reflect.InvocationTargetException;
import java.lang.reflect.Method;
import java.nio.file.Files;
import java.nio.file.Path;
import java.util.HashSet;
import java.util.Set;
import java.util.regex.Matcher;
import java.util.regex.Pattern;

/** README.md's own lines: each call that it shows is made, and answers what stands behind it. */
public final class ReadmeTest {
    private static final Pattern CALL = Pattern.compile("aid\\.(\\w+)\\((.*)\\); +// (-?\\d+|throws)(:.*)?");
    private static final Pattern TELL = Pattern.compile("tell\\(aid, \"(.*)\"\\);");

    public static void main(String[] args) throws IOException, ReflectiveOperationException {
        Due due = new Due();
        FindingAid aid = new FindingAid();
        Set<String> shown = new HashSet<>();
        for (String line : Files.readAllLines(Path.of("README.md"))) {
            Matcher told = TELL.matcher(line);
            Matcher call = CALL.matcher(line);
            if (told.matches()) {
                Due.tell(aid, told.group(1).replace("\\n", "\n"));
                shown.add("sign");
            } else if (call.matches()) {
                long want = call.group(3).equals("throws") ? Due.THROWS : Long.parseLong(call.group(3));
                due.same(line, answer(aid, call.group(1), call.group(2)), want);
                shown.add(call.group(1));
            } else {
                due.same("a call that can't be made, " + line, line.startsWith("aid.") ? 1 : 0, 0);
            }
        }
        due.same("calls of the face that are shown", shown.size(), 21);
        due.end();
    }

    private static int answer(FindingAid aid, String name, String written) throws ReflectiveOperationException {
        try {
            return (Integer) named(name).invoke(aid, values(written));
        } catch (InvocationTargetException e) {
            if (e.getCause() instanceof IllegalStateException) {
                return Due.THROWS;
            }
            throw e;
        }
    }

    private static Method named(String name) throws NoSuchMethodException {
        for (Method method : FindingAid.class.getDeclaredMethods()) {
            if (method.getName().equals(name)) {
                return method;
            }
        }
        throw new NoSuchMethodException(name);
    }

    private static Object[] values(String written) {
        if (written.isEmpty()) {
            return new Object[0];
        }
        String[] parts = written.split(", ");
        Object[] values = new Object[parts.length];
        for (int k = 0; k < parts.length; k++) {
            boolean truth = parts[k].equals("true") || parts[k].equals("false");
            values[k] = truth ? (Object) Boolean.valueOf(parts[k]) : (Object) Integer.valueOf(parts[k]);
        }
        return values;
    }
}
