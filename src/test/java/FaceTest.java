import java.lang.reflect.Constructor;
import java.lang.reflect.Field;
import java.lang.reflect.Method;
import java.lang.reflect.Modifier;
import java.util.Set;
import java.util.TreeSet;
import java.util.regex.Matcher;
import java.util.regex.Pattern;

/** The face of the document, what of LANGUAGE.md can be read off the file, and that no call throws. */
public final class FaceTest {
    private static final Due DUE = new Due("FaceTest");
    private static final Pattern PRINTED = Pattern.compile("```java\\s+public final class HatRound \\{([\\s\\S]*?)\\}\\s+```");
    private static final Pattern AHEAD = Pattern.compile("Ahead of the calls ([^:]*) the interface says: (---- [a-z, ]*)\\.");
    private static final Pattern OPENING = Pattern.compile("(?:    |        )(?:[\\w\\[\\]]+ )*(\\w+)\\(.*\\) \\{");
    private static final int[] EXTREMES = {Integer.MIN_VALUE, -10, -1, 0, 1, 5, 6, 9, 10, 63, 64, 99, 100, 256, 1000000000, Integer.MAX_VALUE};

    public static void main(String[] args) throws Exception {
        String source = Due.fileText("src/main/java/HatRound.java");
        String[] printed = printedFace();
        face(printed);
        writtenAsPrinted(source, printed);
        writtenUnderItsHeading(source);
        constants();
        privateMembers();
        language(source);
        sizes();
        methods(source);
        for (String text : new String[] {"", "H", "HT010", "HP000000", "HP395325P009000T299T010P029001"}) {
            noCallThrows(text);
        }
        DUE.end();
    }

    /** The lines of the face as the document prints it, the constants first. */
    private static String[] printedFace() {
        Matcher printed = PRINTED.matcher(Due.fileText("../shared/DOC.md"));
        if (!printed.find()) {
            throw new IllegalStateException("the document prints no face");
        }
        return printed.group(1).strip().split("\\s*\\n\\s*");
    }

    private static String told(Method m) {
        StringBuilder told = new StringBuilder(m.getReturnType() + " " + m.getName() + "(");
        for (Class<?> type : m.getParameterTypes()) {
            told.append(told.charAt(told.length() - 1) == '(' ? "" : ",").append(type);
        }
        return told.append(")").toString();
    }

    /** A printed line as reflection tells it: without the names of what is given. */
    private static String told(String line) {
        return line.replace("public ", "").replaceAll("(int|long|boolean) \\w+(?=[,)])", "$1").replace(", ", ",").replace(";", "");
    }

    private static void face(String[] printed) {
        DUE.isTrue("the class is public and final", HatRound.class.getModifiers() == (Modifier.PUBLIC | Modifier.FINAL));
        Set<String> due = new TreeSet<>();
        for (String line : printed) {
            if (line.contains(")") && !line.contains("public HatRound(")) {
                due.add(told(line));
            }
        }
        DUE.is("methods that the document prints", due.size(), 28);
        Set<String> got = new TreeSet<>();
        for (Method m : HatRound.class.getDeclaredMethods()) {
            if (!Modifier.isPrivate(m.getModifiers())) {
                got.add(told(m));
                DUE.isTrue(m + " is public alone", m.getModifiers() == Modifier.PUBLIC);
            }
        }
        DUE.isTrue("methods " + got, got.equals(due));
        Constructor<?>[] made = HatRound.class.getDeclaredConstructors();
        DUE.isTrue("one public constructor", made.length == 1 && made[0].getModifiers() == Modifier.PUBLIC && made[0].getParameterCount() == 0);
    }

    private static void writtenAsPrinted(String source, String[] printed) {
        int at = 0;
        for (String line : printed) {
            String written = line.endsWith(");") ? line.replace(");", ") {") : line;
            int found = source.indexOf("\n    " + written + "\n", at);
            DUE.isTrue(line + " stands in the file, in its turn", found >= 0);
            at = Math.max(at, found);
        }
    }

    private static void writtenUnderItsHeading(String source) {
        Matcher ahead = AHEAD.matcher(Due.document());
        int headings = 0;
        while (ahead.find()) {
            headings++;
            int from = source.indexOf("    // " + ahead.group(2) + "\n");
            DUE.isTrue(ahead.group(2) + " stands in the file", from >= 0);
            String under = from < 0 ? "" : source.substring(from, Math.max(from, source.indexOf("    // ----", from + 1)));
            StringBuilder calls = new StringBuilder();
            Matcher call = Pattern.compile("\n    public \\w+ (\\w+)\\(").matcher(under);
            while (call.find()) {
                calls.append(calls.length() == 0 ? "`" : ", `").append(call.group(1)).append("`");
            }
            DUE.isTrue(ahead.group(2) + " stands ahead of " + calls, calls.toString().equals(ahead.group(1)));
        }
        DUE.is("headings", headings, 6);
    }

    private static void constants() {
        DUE.is("UNKNOWN", HatRound.UNKNOWN, -1);
        DUE.is("BAD", HatRound.BAD, -2);
        DUE.is("LATE", HatRound.LATE, -3);
        DUE.is("FULL", HatRound.FULL, -4);
        DUE.is("NONE", HatRound.NONE, -9);
    }

    private static void privateMembers() {
        Set<String> open = new TreeSet<>();
        for (Field f : HatRound.class.getDeclaredFields()) {
            if (!Modifier.isPrivate(f.getModifiers())) {
                open.add(f.getName());
            }
            DUE.isTrue(f + ": static fields are final", !Modifier.isStatic(f.getModifiers()) || Modifier.isFinal(f.getModifiers()));
        }
        DUE.isTrue("constants " + open, open.equals(Set.of("UNKNOWN", "BAD", "LATE", "FULL", "NONE")));
        Set<String> publicNames = new TreeSet<>();
        for (Method m : HatRound.class.getMethods()) {
            publicNames.add(m.getName());
        }
        for (Class<?> inside : HatRound.class.getDeclaredClasses()) {
            DUE.isTrue(inside + " is static", Modifier.isStatic(inside.getModifiers()));
            for (Method m : inside.getDeclaredMethods()) {
                DUE.isTrue(m + " bears a name of its own", !publicNames.contains(m.getName()));
            }
        }
        for (Method m : HatRound.class.getDeclaredMethods()) {
            DUE.isTrue(m + " bears a name of its own", !Modifier.isPrivate(m.getModifiers()) || !publicNames.contains(m.getName()));
        }
    }

    private static void language(String source) {
        String code = source.replaceAll("/\\*[\\s\\S]*?\\*/", " ").replaceAll("//.*", " ");
        Matcher word = Pattern.compile("\\b(throw|throws|try|catch|synchronized|assert|double|float|package|Exact)\\b|->|::|\"").matcher(code);
        DUE.isTrue("a word that the language leaves out", !word.find());
        Matcher library = Pattern.compile("\\bimport\\s+([\\w.]+)").matcher(code);
        while (library.find()) {
            DUE.isTrue("import " + library.group(1), library.group(1).equals("java.util.Arrays"));
        }
    }

    /** The numbers of rule 11. */
    private static void sizes() {
        DUE.isTrue("twelve classes at most", HatRound.class.getDeclaredClasses().length < 12);
        sizesOf(HatRound.class);
        for (Class<?> inside : HatRound.class.getDeclaredClasses()) {
            sizesOf(inside);
        }
    }

    private static void sizesOf(Class<?> one) {
        int fields = 0;
        for (Field f : one.getDeclaredFields()) {
            fields += Modifier.isStatic(f.getModifiers()) ? 0 : 1;
        }
        DUE.isTrue(one + " has twenty fields at most", fields <= 20);
        for (Method m : one.getDeclaredMethods()) {
            DUE.isTrue(m + " takes seven at most", m.getParameterCount() <= 7);
        }
    }

    /** Methods stay short, and none but a constructor makes an object, so that many calls live in one room. */
    private static void methods(String source) {
        String[] lines = source.split("\n");
        int found = 0;
        for (int i = 0; i < lines.length; i++) {
            Matcher opening = OPENING.matcher(lines[i]);
            if (!opening.matches()) {
                continue;
            }
            found++;
            String end = lines[i].replaceAll("\\S.*", "") + "}";
            boolean makes = false;
            int last = i;
            while (last + 1 < lines.length && !lines[last].equals(end)) {
                last++;
                makes |= lines[last].contains("new ");
            }
            boolean isConstructor = Character.isUpperCase(opening.group(1).charAt(0));
            DUE.isTrue(opening.group(1) + " has sixty lines at most", last - i < 60);
            DUE.isTrue(opening.group(1) + " makes no object", isConstructor || !makes);
        }
        DUE.isTrue("methods were found: " + found, found > 60);
    }

    /** What is thrown here ends the test with a stack. */
    private static void noCallThrows(String text) throws Exception {
        for (Method m : HatRound.class.getDeclaredMethods()) {
            if (!Modifier.isPublic(m.getModifiers())) {
                continue;
            }
            for (int a : EXTREMES) {
                for (int b : EXTREMES) {
                    HatRound x = new HatRound();
                    Due.write(x, text);
                    x.square();
                    m.invoke(x, arguments(m, a, b));
                    m.invoke(x, arguments(m, b, a));
                    DUE.isTrue(m.getName() + " leaves an object of use", x.about(0) >= 0 && x.plan(3, 0) >= HatRound.NONE);
                }
            }
        }
    }

    private static Object[] arguments(Method m, int a, int b) {
        Class<?>[] types = m.getParameterTypes();
        Object[] arguments = new Object[types.length];
        for (int i = 0; i < types.length; i++) {
            int v = i == 0 ? a : b;
            if (types[i] == boolean.class) {
                arguments[i] = v > 0;
            } else if (types[i] == long.class) {
                arguments[i] = (long) v;
            } else {
                arguments[i] = v;
            }
        }
        return arguments;
    }
}
