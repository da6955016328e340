import java.io.IOException;
import java.lang.reflect.Constructor;
import java.lang.reflect.Field;
import java.lang.reflect.Method;
import java.lang.reflect.Modifier;
import java.nio.file.Files;
import java.nio.file.Path;
import java.util.ArrayList;
import java.util.List;
import java.util.TreeSet;
import java.util.regex.Pattern;

/** The face of the document and nothing beside it, and those rules of LANGUAGE.md that a text shows. */
public final class FaceTest {
    private static final Due DUE = new Due("FaceTest");
    private static final String[] METHODS = {
        "int state(int)", "boolean set(int,int)", "int send(int)", "int past(int)", "boolean start(int,int)",
        "boolean direct(int)", "boolean renumber(int)", "int take()", "int tick(int)", "boolean drop(boolean,int)",
        "boolean spoil(boolean,int,int,int)", "int feed(int,int,int,int,int)", "boolean end(int)", "int plan()",
        "int fault(int)", "int run(int)", "int sender(int)", "int receiver(int)", "int way(boolean,int,int)",
        "int alarm(int)", "int told(int,int)", "int judge(int,int,int,int,int)", "int verdicts(int)",
        "int diary(int,int)", "int ledger(int,int)", "int delays(int)", "int zone(int)", "int fate(boolean,int)",
        "int truth(int)", "int soon()", "int ways()", "boolean image(boolean)", "int look(int)"};
    private static final String[] FORBIDDEN = {
        "throw", "try", "catch", "synchronized", "assert", "->", "::", "import", "instanceof Integer", "var",
        "Exact\\(", "new Random", "System\\.(?!arraycopy)", "Integer\\.", "native", "static \\{"};

    public static void main(String[] args) throws IOException {
        face();
        nestedClasses();
        rules(Files.readString(Path.of(args.length > 0 ? args[0] : ".", "src/main/java/CommandLink.java")));
        DUE.end();
    }

    private static void face() {
        Class<?> c = CommandLink.class;
        DUE.is("public and final", true, Modifier.isPublic(c.getModifiers()) && Modifier.isFinal(c.getModifiers()));
        TreeSet<String> found = new TreeSet<>();
        List<String> open = new ArrayList<>();
        for (Method m : c.getDeclaredMethods()) {
            if (Modifier.isPublic(m.getModifiers()) && !Modifier.isStatic(m.getModifiers())) {
                found.add(heading(m));
            } else if (!Modifier.isPrivate(m.getModifiers())) {
                open.add(m.getName());
            }
        }
        DUE.is("methods", new TreeSet<>(List.of(METHODS)).toString(), found.toString());
        for (Field f : c.getDeclaredFields()) {
            if (!Modifier.isPrivate(f.getModifiers())) {
                open.add(f.getName());
            }
        }
        DUE.is("else open", "[NONE]", open.toString());
        Constructor<?>[] made = c.getDeclaredConstructors();
        DUE.is("constructors", 1, made.length);
        DUE.is("public, without a parameter", true,
                Modifier.isPublic(made[0].getModifiers()) && made[0].getParameterCount() == 0);
    }

    private static String heading(Method m) {
        StringBuilder s = new StringBuilder(m.getReturnType().getName());
        s.append(' ').append(m.getName()).append('(');
        for (Class<?> p : m.getParameterTypes()) {
            s.append(s.charAt(s.length() - 1) == '(' ? "" : ",").append(p.getName());
        }
        return s.append(')').toString();
    }

    private static void nestedClasses() {
        TreeSet<String> faceNames = new TreeSet<>();
        for (String m : METHODS) {
            faceNames.add(m.substring(m.indexOf(' ') + 1, m.indexOf('(')));
        }
        Class<?>[] inside = CommandLink.class.getDeclaredClasses();
        DUE.is("some twelve classes", true, inside.length <= 11);
        for (Class<?> c : inside) {
            DUE.is(c + " static", true, Modifier.isStatic(c.getModifiers()));
            int own = 0;
            for (Field f : c.getDeclaredFields()) {
                boolean isStatic = Modifier.isStatic(f.getModifiers());
                own += isStatic ? 0 : 1;
                DUE.is(f + " static and not final", false, isStatic && !Modifier.isFinal(f.getModifiers()));
            }
            DUE.is(c + " some twenty fields", true, own <= 20);
            for (Method m : c.getDeclaredMethods()) {
                DUE.is(m + " bears a name of the face", false, faceNames.contains(m.getName()));
                DUE.is(m + " seven parameters", true, m.getParameterCount() <= 7);
            }
        }
    }

    private static void rules(String source) {
        String code = source.replaceAll("(?s)/\\*.*?\\*/", "").replaceAll("//[^\n]*", "");
        for (String word : FORBIDDEN) {
            String bounded = Character.isLetter(word.charAt(0)) ? "\\b" + word : word;
            if (Character.isLetter(word.charAt(word.length() - 1))) {
                bounded += "\\b";
            }
            DUE.is("the code has " + word, false, Pattern.compile(bounded).matcher(code).find());
        }
        DUE.is("texts are joined by +", false, Pattern.compile("\"\\s*\\+|\\+\\s*\"").matcher(code).find());
        DUE.is("signs above 127", false, source.chars().anyMatch(c -> c > 127));
        DUE.is("one file without a package", false, Pattern.compile("\\bpackage\\b").matcher(code).find());
    }
}
