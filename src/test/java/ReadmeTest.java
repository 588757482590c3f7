import java.io.IOException;
import java.lang.reflect.InvocationTargetException;
import java.lang.reflect.Method;
import java.nio.file.Files;
import java.nio.file.Path;
import java.util.List;
import java.util.Set;
import java.util.TreeSet;
import java.util.regex.Matcher;
import java.util.regex.Pattern;

/** Makes the calls of README.md's example, in their order, and compares each answer with the one that is told there. */
public final class ReadmeTest {
    private static final Pattern CALL = Pattern.compile("chain\\.(\\w+)\\((.*)\\); +// ([^:]*)(:.*)?");
    private static final String MADE = "TourChain chain = new TourChain();";

    private static final Check check = new Check();

    private final Set<String> called = new TreeSet<>();
    private TourChain chain;
    private int calls = 0;

    public static void main(String[] args) throws IOException, IllegalAccessException {
        new ReadmeTest().askAll(Files.readAllLines(Path.of("README.md")));
        check.end();
    }

    private void askAll(List<String> lines) throws IllegalAccessException {
        boolean inside = false;
        for (String line : lines) {
            if (line.startsWith("```")) {
                inside = line.equals("```java");
            } else if (inside && !line.isEmpty()) {
                askLine(line);
            }
        }
        for (Method method : TourChain.class.getDeclaredMethods()) {
            if (java.lang.reflect.Modifier.isPublic(method.getModifiers())) {
                check.due("README.md calls " + method.getName(), true, called.contains(method.getName()));
            }
        }
        check.due("README.md makes at most 512 calls", true, calls <= 512);
    }

    private void askLine(String line) throws IllegalAccessException {
        if (line.startsWith(MADE)) {
            chain = new TourChain();
            return;
        }
        Matcher call = CALL.matcher(line);
        check.due("README.md's line can be read: " + line, true, call.matches());
        if (call.matches()) {
            called.add(call.group(1));
            calls++;
            String got = answer(call.group(1), call.group(2));
            String told = call.group(3);
            // turn answers nothing, so nothing but words stands behind it.
            boolean isRight = got.equals("nothing") ? !told.endsWith("Exception") : got.equals(told);
            check.due("README.md tells " + told + ", the class answers " + got + ": " + line, true, isRight);
        }
    }

    private String answer(String name, String arguments) throws IllegalAccessException {
        String[] words = arguments.isEmpty() ? new String[0] : arguments.split(", ");
        for (Method method : TourChain.class.getDeclaredMethods()) {
            if (method.getName().equals(name) && method.getParameterCount() == words.length) {
                return answer(method, values(words));
            }
        }
        return "no such method";
    }

    private static Object[] values(String[] words) {
        Object[] values = new Object[words.length];
        for (int i = 0; i < words.length; i++) {
            boolean isTruth = words[i].equals("true") || words[i].equals("false");
            values[i] = isTruth ? (Object) Boolean.valueOf(words[i]) : (Object) Integer.valueOf(words[i]);
        }
        return values;
    }

    private String answer(Method method, Object[] values) throws IllegalAccessException {
        try {
            Object answer = method.invoke(chain, values);
            return answer == null ? "nothing" : answer.toString();
        } catch (InvocationTargetException e) {
            return e.getCause().getClass().getSimpleName();
        }
    }
}
