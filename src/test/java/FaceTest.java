import java.lang.reflect.Constructor;
import java.lang.reflect.Field;
import java.lang.reflect.Method;
import java.lang.reflect.Modifier;
import java.util.Set;
import java.util.TreeSet;
import java.util.regex.Matcher;
import java.util.regex.Pattern;

/** The face of the document, what of LANGUAGE.md can be read off the file, and that no call throws. */
public final class FaceTest {
    private static final Due DUE = new Due("FaceTest");
    private static final String FACE = "int write(int); int wipe(); int fault(); int square(); int about(int);"
        + " int person(int,int); int tune(int,int); int play(int); int round(int); int bait(int); int undo();"
        + " int would(int,int); int plan(int,int); int soon(int); int grows(int,int); int bestBait(int);"
        + " int judged(int,int); int never(); int louder(int,int); int shares(int,int,int); int gave(int,int);"
        + " int see(int,boolean); int unsee(); int luck(int,int,boolean); long seed(long); int day(int);"
        + " int keep(int); int again(int)";
    private static final int[] EXTREMES = {Integer.MIN_VALUE, -10, -1, 0, 1, 5, 6, 9, 10, 63, 64, 99, 100, 256, 1000000000, Integer.MAX_VALUE};

    public static void main(String[] args) throws Exception {
        face();
        privateMembers();
        language(Due.fileText("src/main/java/HatRound.java"));
        for (String text : new String[] {"", "H", "HT010", "HP000000", "HP395325P009000T299T010P029001"}) {
            noCallThrows(text);
        }
        DUE.end();
    }

    private static String told(Method m) {
        StringBuilder told = new StringBuilder(m.getReturnType() + " " + m.getName() + "(");
        for (Class<?> type : m.getParameterTypes()) {
            told.append(told.charAt(told.length() - 1) == '(' ? "" : ",").append(type);
        }
        return told.append(")").toString();
    }

    private static void face() {
        DUE.isTrue("the class is public and final", HatRound.class.getModifiers() == (Modifier.PUBLIC | Modifier.FINAL));
        Set<String> due = new TreeSet<>(Set.of(FACE.split("; ")));
        Set<String> got = new TreeSet<>();
        for (Method m : HatRound.class.getDeclaredMethods()) {
            if (!Modifier.isPrivate(m.getModifiers())) {
                got.add(told(m));
                DUE.isTrue(m + " is public alone", m.getModifiers() == Modifier.PUBLIC);
            }
        }
        DUE.isTrue("methods " + got, got.equals(due));
        Constructor<?>[] made = HatRound.class.getDeclaredConstructors();
        DUE.isTrue("one public constructor", made.length == 1 && made[0].getModifiers() == Modifier.PUBLIC && made[0].getParameterCount() == 0);
    }

    private static void privateMembers() {
        Set<String> open = new TreeSet<>();
        for (Field f : HatRound.class.getDeclaredFields()) {
            if (!Modifier.isPrivate(f.getModifiers())) {
                open.add(f.getName());
            }
            DUE.isTrue(f + ": static fields are final", !Modifier.isStatic(f.getModifiers()) || Modifier.isFinal(f.getModifiers()));
        }
        DUE.isTrue("constants " + open, open.equals(Set.of("UNKNOWN", "BAD", "LATE", "FULL", "NONE")));
        Set<String> publicNames = new TreeSet<>();
        for (Method m : HatRound.class.getMethods()) {
            publicNames.add(m.getName());
        }
        for (Class<?> inside : HatRound.class.getDeclaredClasses()) {
            DUE.isTrue(inside + " is static", Modifier.isStatic(inside.getModifiers()));
            for (Method m : inside.getDeclaredMethods()) {
                DUE.isTrue(m + " bears a name of its own", !publicNames.contains(m.getName()));
            }
        }
        for (Method m : HatRound.class.getDeclaredMethods()) {
            DUE.isTrue(m + " bears a name of its own", !Modifier.isPrivate(m.getModifiers()) || !publicNames.contains(m.getName()));
        }
    }

    private static void language(String source) {
        String code = source.replaceAll("/\\*[\\s\\S]*?\\*/", " ").replaceAll("//.*", " ");
        Matcher word = Pattern.compile("\\b(throw|throws|try|catch|synchronized|assert|double|float|package|Exact)\\b|->|::|\"").matcher(code);
        DUE.isTrue("a word that the language leaves out", !word.find());
        Matcher library = Pattern.compile("\\bimport\\s+([\\w.]+)").matcher(code);
        while (library.find()) {
            DUE.isTrue("import " + library.group(1), library.group(1).equals("java.util.Arrays"));
        }
    }

    /** What is thrown here ends the test with a stack. */
    private static void noCallThrows(String text) throws Exception {
        for (Method m : HatRound.class.getDeclaredMethods()) {
            if (!Modifier.isPublic(m.getModifiers())) {
                continue;
            }
            for (int a : EXTREMES) {
                for (int b : EXTREMES) {
                    HatRound x = new HatRound();
                    Due.write(x, text);
                    x.square();
                    m.invoke(x, arguments(m, a, b));
                    m.invoke(x, arguments(m, b, a));
                    DUE.isTrue(m.getName() + " leaves an object of use", x.about(0) >= 0 && x.plan(3, 0) >= HatRound.NONE);
                }
            }
        }
    }

    private static Object[] arguments(Method m, int a, int b) {
        Class<?>[] types = m.getParameterTypes();
        Object[] arguments = new Object[types.length];
        for (int i = 0; i < types.length; i++) {
            int v = i == 0 ? a : b;
            if (types[i] == boolean.class) {
                arguments[i] = v > 0;
            } else if (types[i] == long.class) {
                arguments[i] = (long) v;
            } else {
                arguments[i] = v;
            }
        }
        return arguments;
    }
}
