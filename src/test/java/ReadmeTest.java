import java.lang.reflect.Method;
import java.lang.reflect.Modifier;
import java.util.Set;
import java.util.TreeSet;
import java.util.regex.Matcher;
import java.util.regex.Pattern;

/** That README.md shows every call, with the answers that it gives. */
public final class ReadmeTest {
    private static final Due DUE = new Due("ReadmeTest");
    private static final Pattern EXAMPLE = Pattern.compile("```java\n([\\s\\S]*?)```");
    private static final Pattern TEXT = Pattern.compile("\"([^\"]+)\"");
    private static final Pattern CALL = Pattern.compile("x\\.(\\w+)\\((.*?)\\);\\s*// (-?\\d+) ");

    public static void main(String[] args) throws Exception {
        String readme = Due.fileText("README.md");
        Matcher example = EXAMPLE.matcher(readme);
        DUE.isTrue("README.md shows an example", example.find());
        makeCalls(example.group(1));
        DUE.isTrue("README.md says how to run the tests", readme.contains("\n    .ci/run\n"));
        DUE.end();
    }

    private static void makeCalls(String example) throws Exception {
        Matcher text = TEXT.matcher(example);
        DUE.isTrue("the example has a text", text.find());
        HatRound x = new HatRound();
        for (char c : text.group(1).toCharArray()) {
            x.write(c);
        }
        Set<String> unshown = publicCalls();
        unshown.remove("write");
        Matcher call = CALL.matcher(example);
        while (call.find()) {
            unshown.remove(call.group(1));
            DUE.is(call.group(), answer(x, call.group(1), call.group(2)), Long.parseLong(call.group(3)));
        }
        DUE.isTrue("README.md does not show " + unshown, unshown.isEmpty());
    }

    private static Set<String> publicCalls() {
        Set<String> names = new TreeSet<>();
        for (Method m : HatRound.class.getDeclaredMethods()) {
            if (Modifier.isPublic(m.getModifiers())) {
                names.add(m.getName());
            }
        }
        return names;
    }

    private static long answer(HatRound x, String name, String told) throws Exception {
        for (Method m : HatRound.class.getDeclaredMethods()) {
            if (Modifier.isPublic(m.getModifiers()) && m.getName().equals(name)) {
                return ((Number) m.invoke(x, arguments(m, told))).longValue();
            }
        }
        throw new IllegalStateException("README.md shows a call that there is not: " + name);
    }

    private static Object[] arguments(Method m, String told) {
        Class<?>[] types = m.getParameterTypes();
        String[] values = told.isEmpty() ? new String[0] : told.split(", ");
        Object[] arguments = new Object[values.length];
        for (int i = 0; i < values.length; i++) {
            if (types[i] == boolean.class) {
                arguments[i] = Boolean.valueOf(values[i]);
            } else if (types[i] == long.class) {
                arguments[i] = Long.valueOf(values[i].replace("L", ""));
            } else {
                arguments[i] = Integer.valueOf(values[i]);
            }
        }
        return arguments;
    }
}
