import java.io.IOException;
import java.lang.reflect.Field;
import java.lang.reflect.Member;
import java.lang.reflect.Method;
import java.lang.reflect.Modifier;
import java.nio.file.Files;
import java.nio.file.Path;
import java.util.List;
import java.util.Set;
import java.util.TreeSet;
import java.util.stream.Collectors;
import java.util.stream.Stream;

/** The face is that of the document, and the file keeps to what LANGUAGE.md leaves of Java. */
final class FaceTest {
    private static final String[] FACE = {
        "int policy(int,int,int,int)", "int loss(int,int,int,int)", "int setAmount(int,int)",
        "int treaty(char,char,int,int,int,int)", "int setDays(int,int)", "int reinstate(int,int,int,boolean)",
        "int setPremium(int,int)", "int share(int,int,int)", "boolean fail(int,boolean)",
        "boolean handOn(int,int,int,int)", "long commute(int,int)", "long left(int)", "long taken(int)",
        "long takenFrom(int,int)", "long limit(int)", "long reinstated(int)", "long owed(int)", "int events(int,int)",
        "int eventOf(int,int)", "boolean isSame(int)", "long paid(int,int)", "long lost(int)", "long comes(int)",
        "long stays(int)", "long net()", "int scenario(int,int)", "int damage(int,int,int)", "long scenarioNet(int)",
        "long tail(int)", "int losses()", "int treaties()", "long allLosses()", "float leftShare()",
        "double meanNet()", "boolean isSound()",
    };
    private static final String[] FORBIDDEN = {
        "->", "::", "synchronized", "assert", "finally", "try {", "catch", "static {", "System.out", "Exact(", "package ",
        "protected", "getMessage", "instanceof", "Iterator", "String.", "Object", "@",
    };

    private static final Checks IS = new Checks();

    public static void main(String[] args) throws IOException {
        face();
        members();
        classes();
        text();
        IS.end("FaceTest");
    }

    private static void face() {
        IS.at("the public face");
        IS.due(true, Modifier.isPublic(Layertreaty.class.getModifiers()) && Modifier.isFinal(Layertreaty.class.getModifiers()));
        Set<String> due = new TreeSet<>(List.of(FACE));
        Set<String> is = Stream.of(Layertreaty.class.getDeclaredMethods()).filter(m -> Modifier.isPublic(m.getModifiers()))
                .map(FaceTest::told).collect(Collectors.toCollection(TreeSet::new));
        IS.due(due, is);
        IS.due(1, Layertreaty.class.getConstructors().length);
        IS.due(1, Layertreaty.class.getDeclaredConstructors().length);
    }

    private static String told(Method m) {
        String kinds = Stream.of(m.getParameterTypes()).map(Class::getName).collect(Collectors.joining(","));
        return m.getReturnType().getName() + " " + m.getName() + "(" + kinds + ")";
    }

    private static boolean isHidden(Member m) {
        return Modifier.isPrivate(m.getModifiers()) || m.isSynthetic();
    }

    private static void members() {
        IS.at("rules 1 and 11, members");
        Set<String> names = Stream.of(FACE).map(x -> x.substring(x.indexOf(' ') + 1, x.indexOf('('))).collect(Collectors.toSet());
        for (Method m : Layertreaty.class.getDeclaredMethods()) {
            IS.due(true, isHidden(m) != Modifier.isPublic(m.getModifiers()));
            IS.due(true, !isHidden(m) || !names.contains(m.getName()));
            IS.due(true, m.getParameterCount() <= 7);
        }
        for (Field f : Layertreaty.class.getDeclaredFields()) {
            IS.due(true, isHidden(f));
        }
    }

    private static void classes() {
        IS.at("rules 2, 5 and 11, classes");
        Class<?>[] inside = Layertreaty.class.getDeclaredClasses();
        IS.due(true, inside.length + 1 <= 12);
        for (Class<?> c : inside) {
            IS.due(true, Modifier.isStatic(c.getModifiers()) && Modifier.isPrivate(c.getModifiers()));
            for (Method m : c.getDeclaredMethods()) {
                IS.due(true, m.getParameterCount() <= 7);
            }
            int fields = 0;
            for (Field f : c.getDeclaredFields()) {
                boolean isStatic = Modifier.isStatic(f.getModifiers());
                IS.due(true, !isStatic || Modifier.isFinal(f.getModifiers()));
                fields += isStatic ? 0 : 1;
            }
            IS.due(true, fields <= 20);
        }
    }

    private static void text() throws IOException {
        IS.at("the file");
        List<String> lines = Files.readAllLines(Path.of("src/main/java/Layertreaty.java"));
        for (int i = 0; i < lines.size(); i++) {
            String line = lines.get(i);
            for (String word : FORBIDDEN) {
                IS.due("", line.contains(word) ? word + " in line " + (i + 1) : "");
            }
            if (line.startsWith("import ")) {
                IS.due(true, List.of("import java.util.ArrayList;", "import java.util.Arrays;",
                        "import java.util.NoSuchElementException;").contains(line));
            }
            for (String indent : new String[] {"    ", "        "}) {
                if (line.startsWith(indent) && line.charAt(indent.length()) != ' ' && line.contains("(") && line.endsWith("{")) {
                    IS.due(true, lines.subList(i, lines.size()).indexOf(indent + "}") <= 60);
                }
            }
            IS.due(true, line.chars().allMatch(c -> c >= 32 && c < 127));
        }
    }
}
