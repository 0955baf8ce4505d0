import java.io.IOException;
import java.lang.reflect.Constructor;
import java.lang.reflect.Field;
import java.lang.reflect.Method;
import java.lang.reflect.Modifier;
import java.nio.file.Files;
import java.nio.file.Path;
import java.util.Set;
import java.util.TreeSet;
import java.util.regex.Matcher;
import java.util.regex.Pattern;

/** The face of the document, and the rules of LANGUAGE.md that can be seen in the source or the classes. */
public final class LanguageTest {
    private static final Check C = new Check("LanguageTest");
    private static final Path SOURCE = Path.of("src/main/java/KneeBench.java");
    private static final Path DOCUMENT = Path.of("../shared/DOC.md");

    public static void main(String[] args) throws IOException {
        String source = Files.readString(SOURCE);
        String code = withoutCommentsAndTexts(source);
        face(Files.readString(DOCUMENT));
        members();
        words(code);
        making(code);
        shortMethods(source);
        wildCalls();
        C.finish();
    }

    private static String withoutCommentsAndTexts(String source) {
        return source.replaceAll("(?s)/\\*.*?\\*/", " ").replaceAll("//[^\n]*", " ").replaceAll("\"[^\"\n]*\"", "\"\"");
    }

    private static String shown(Method m) {
        StringBuilder b = new StringBuilder(m.getReturnType().getName()).append(' ').append(m.getName()).append('(');
        for (Class<?> type : m.getParameterTypes()) {
            b.append(type.getName()).append(',');
        }
        return b.append(')').toString();
    }

    private static void face(String document) {
        Set<String> want = new TreeSet<>();
        Matcher line = Pattern.compile("    public (\\w+) (\\w+)\\((.*)\\);").matcher(document);
        while (line.find()) {
            StringBuilder b = new StringBuilder(line.group(1) + " " + line.group(2) + "(");
            for (String parameter : line.group(3).isEmpty() ? new String[0] : line.group(3).split(", ")) {
                b.append(parameter.split(" ")[0]).append(',');
            }
            want.add(b.append(')').toString());
        }
        C.due("methods of the document", want.size(), 69);
        Set<String> got = new TreeSet<>();
        for (Method m : KneeBench.class.getDeclaredMethods()) {
            if (!Modifier.isPrivate(m.getModifiers())) {
                got.add(shown(m));
            }
        }
        C.due("the face " + got + " is that of the document", got.equals(want), true);
        C.due("the class is public and final", Modifier.isPublic(KneeBench.class.getModifiers())
                && Modifier.isFinal(KneeBench.class.getModifiers()), true);
        Constructor<?>[] all = KneeBench.class.getDeclaredConstructors();
        C.due("one public constructor without parameters", all.length == 1 && all[0].getParameterCount() == 0
                && Modifier.isPublic(all[0].getModifiers()), true);
    }

    private static void members() {
        Set<String> publicNames = new TreeSet<>();
        for (Method m : KneeBench.class.getDeclaredMethods()) {
            if (Modifier.isPublic(m.getModifiers())) {
                publicNames.add(m.getName());
            }
        }
        for (Method m : KneeBench.class.getDeclaredMethods()) {
            C.due(m.getName() + " is private or of the face", Modifier.isPrivate(m.getModifiers())
                    != publicNames.contains(m.getName()), true);
        }
        for (Field f : KneeBench.class.getDeclaredFields()) {
            C.due("field " + f.getName(), Modifier.isPrivate(f.getModifiers()) || f.getName().equals("NONE"), true);
        }
        Class<?>[] inside = KneeBench.class.getDeclaredClasses();
        C.due("at most twelve classes", inside.length + 1 <= 12, true);
        fields(KneeBench.class);
        for (Class<?> c : inside) {
            C.due(c.getName() + " is static", Modifier.isStatic(c.getModifiers()), true);
            fields(c);
            for (Method m : c.getDeclaredMethods()) {
                C.due(c.getName() + "." + m.getName() + " bears a name of its own", publicNames.contains(m.getName()), false);
            }
        }
    }

    private static void fields(Class<?> c) {
        int many = 0;
        for (Field f : c.getDeclaredFields()) {
            if (Modifier.isStatic(f.getModifiers())) {
                C.due(c.getName() + "." + f.getName() + " is final", Modifier.isFinal(f.getModifiers()), true);
            } else {
                many++;
            }
        }
        C.due(c.getName() + " has some twenty fields at most: " + many, many <= 20, true);
    }

    private static void words(String code) {
        String[] forbidden = {"throw", "throws", "try", "catch", "finally", "synchronized", "assert", "import", "package",
            "native", "volatile", "transient", "strictfp", "null", "instanceof", "double", "float", "Exact", "System.out",
            "getClass", "hashCode", "toString", "equals"};
        for (String word : forbidden) {
            boolean is = Pattern.compile("(?<![\\w])" + Pattern.quote(word) + "(?![\\w])").matcher(code).find();
            C.due("the source has the word " + word, is, false);
        }
        C.due("lambdas", code.contains("->"), false);
        C.due("method references", code.contains("::"), false);
        C.due("texts joined by +", Pattern.compile("\"\"\\s*\\+|\\+\\s*\"\"").matcher(code).find(), false);
        Matcher library = Pattern.compile("\\b(Integer|Long|Math|System|Arrays)\\.(\\w+)").matcher(code);
        Set<String> used = new TreeSet<>();
        while (library.find()) {
            used.add(library.group());
        }
        Set<String> allowed = Set.of("Integer.bitCount", "Long.bitCount", "Math.max", "Math.min", "System.arraycopy");
        C.due("library calls " + used, allowed.containsAll(used), true);
    }

    /** What is made is made with the object: every new stands in a field of it. */
    private static void making(String code) {
        for (String line : code.split("\n")) {
            if (Pattern.compile("\\bnew\\b").matcher(line).find()) {
                C.due("made with the object: " + line.trim(), line.trim().startsWith("private final "), true);
            }
        }
    }

    /** At most sixty lines from a method's head to the brace below it, and at most seven parameters. */
    private static void shortMethods(String source) {
        String[] lines = source.split("\n");
        int methods = 0;
        for (int i = 0; i < lines.length; i++) {
            Matcher head = Pattern.compile("^( +)[\\w\\[\\] ]*\\w\\((.*)\\) \\{$").matcher(lines[i]);
            if (head.find() && (head.group(1).length() == 4 || head.group(1).length() == 8) && !lines[i].contains(" if (")
                    && !lines[i].contains(" for (") && !lines[i].contains(" while (") && !lines[i].contains(" switch (")) {
                int end = i;
                while (end < lines.length && !lines[end].equals(head.group(1) + "}")) {
                    end++;
                }
                C.due("lines of" + lines[i] + " " + (end - i + 1), end - i + 1 <= 60, true);
                C.due("parameters of" + lines[i], head.group(2).split(",").length <= 7, true);
                methods++;
            }
        }
        C.due("methods were seen: " + methods, methods > 150, true);
    }

    /** No call throws, whatever it is asked in whatever state. */
    private static void wildCalls() {
        int[] wild = {0, -1, 1, 3, 59, 60, 61, 62, 63, 64, 900, 9999, Integer.MAX_VALUE, Integer.MIN_VALUE};
        KneeBench[] states = {new KneeBench(), Check.with("farmer a ahead 3 fails 0 false 16;weather rdh;"),
            Check.with("farmer a behind 3 fails 16 false 0;weather " + "h".repeat(60) + ";")};
        Check.season(states[2], "loop 99;rain 3;feel;end;");
        for (KneeBench x : states) {
            for (Method m : KneeBench.class.getDeclaredMethods()) {
                if (Modifier.isPublic(m.getModifiers())) {
                    callAll(x, m, wild);
                }
            }
        }
    }

    private static void callAll(KneeBench x, Method m, int[] wild) {
        Class<?>[] types = m.getParameterTypes();
        int rounds = types.length == 0 ? 1 : types.length == 1 ? wild.length : wild.length * wild.length;
        for (int round = 0; round < rounds; round++) {
            Object[] args = new Object[types.length];
            for (int i = 0; i < args.length; i++) {
                int v = wild[(i % 2 == 0 ? round + i : round / wild.length) % wild.length];
                args[i] = types[i] == long.class ? (Object) (long) v : types[i] == boolean.class ? (Object) (v > 0) : (Object) v;
            }
            boolean isAnswered = true;
            try {
                m.invoke(x, args);
            } catch (ReflectiveOperationException e) {
                isAnswered = false;
            }
            C.due(m.getName() + " is answered", isAnswered, true);
        }
    }
}
