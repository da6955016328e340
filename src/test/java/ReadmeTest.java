import java.lang.reflect.Method;
import java.lang.reflect.Modifier;
import java.nio.file.Files;
import java.nio.file.Path;
import java.util.ArrayList;
import java.util.List;
import java.util.regex.Matcher;
import java.util.regex.Pattern;

/** README.md: each call in a block of Java answers what stands behind it, and each call of the face is named. */
public final class ReadmeTest {
    private static final Due DUE = new Due("ReadmeTest");
    private static final Pattern BLOCK = Pattern.compile("(?s)```java\n(.*?)```");
    private static final Pattern CALL = Pattern.compile("link\\.(\\w+)\\((.*?)\\);\\s+// (-?\\d+|true|false)(:.*|;.*)?");
    private static final String MADE = "CommandLink link = new CommandLink();";
    private static final Pattern BOUNDS_ROW = Pattern.compile(
            "\\| (\\d+) \\| [^|]* \\| (\\d+) \\| (\\d+)(?: \\.\\.|,) (\\d+)[^|]* \\| (\\d+) \\|");

    private CommandLink link;

    public static void main(String[] args) throws Exception {
        String page = Files.readString(Path.of(args.length > 0 ? args[0] : ".", "README.md"));
        blocks(page);
        namesEveryCall(page);
        settings(page);
        DUE.end();
    }

    private static void blocks(String page) throws ReflectiveOperationException {
        Matcher m = BLOCK.matcher(page);
        int found = 0;
        while (m.find()) {
            found++;
            new ReadmeTest().block(m.group(1));
        }
        DUE.is("the page has blocks of Java", true, found >= 5);
    }

    private void block(String lines) throws ReflectiveOperationException {
        for (String line : lines.split("\n")) {
            if (line.equals(MADE)) {
                link = new CommandLink();
                continue;
            }
            Matcher call = CALL.matcher(line);
            boolean shows = call.matches() && link != null;
            DUE.is("a call with its answer: " + line, true, shows);
            if (shows) {
                DUE.is(line, call.group(3), answer(call.group(1), call.group(2)));
            }
        }
    }

    private String answer(String name, String args) throws ReflectiveOperationException {
        List<Object> values = new ArrayList<>();
        for (String arg : args.isEmpty() ? new String[0] : args.split(", ")) {
            boolean isTruth = arg.equals("true") || arg.equals("false");
            values.add(isTruth ? (Object) Boolean.valueOf(arg) : (Object) Long.decode(arg).intValue());
        }
        for (Method m : CommandLink.class.getMethods()) {
            if (m.getName().equals(name)) {
                return String.valueOf(m.invoke(link, values.toArray()));
            }
        }
        return "no such call";
    }

    private static void namesEveryCall(String page) {
        for (Method m : CommandLink.class.getDeclaredMethods()) {
            if (Modifier.isPublic(m.getModifiers())) {
                DUE.is("the page names " + m.getName(), true, page.contains("`" + m.getName() + "(")
                        || page.contains("`" + m.getName() + "`") || page.contains("link." + m.getName() + "("));
            }
        }
    }

    /** The table of set: what is at first, the least and the most that can be, which look tells it. */
    private static void settings(String page) {
        Matcher row = BOUNDS_ROW.matcher(page);
        int found = 0;
        while (row.find()) {
            int what = number(row, 1);
            DUE.is("setting " + what + " in its order", found, what);
            DUE.is("setting " + what + " at first", number(row, 2), new CommandLink().look(number(row, 5)));
            int least = number(row, 3);
            int most = number(row, 4);
            DUE.is("setting " + what + ", the least", true, new CommandLink().set(what, least));
            DUE.is("setting " + what + ", below it", false, new CommandLink().set(what, least - 1));
            DUE.is("setting " + what + ", the most", true, new CommandLink().set(what, most));
            DUE.is("setting " + what + ", above it", false, new CommandLink().set(what, most + 1));
            found++;
        }
        DUE.is("the settings that the page tells", 11, found);
    }

    private static int number(Matcher row, int group) {
        return Integer.parseInt(row.group(group));
    }
}
