import java.io.IOException;
import java.lang.reflect.InvocationTargetException;
import java.lang.reflect.Method;
import java.lang.reflect.Modifier;
import java.nio.file.Files;
import java.nio.file.Path;
import java.util.HashSet;
import java.util.Set;
import java.util.regex.Matcher;
import java.util.regex.Pattern;

/** The example of README.md: each of its calls answers what stands behind it there. */
public final class ReadmeTest {
    private static final Check CHECK = new Check("ReadmeTest");
    private static final String HEADING = "### A day in a yard";
    private static final Pattern TOLD = Pattern.compile("tell\\(yard, ((?:\\s|\\+|\"[^\"]*\")*)\\); // (\\d+): .+");
    private static final Pattern CALL = Pattern.compile("yard\\.(\\w+)\\(([^)]*)\\); +// (\\S+): .+");

    public static void main(String[] args) throws IOException, IllegalAccessException {
        String readme = Files.readString(Path.of("README.md"));
        String example = example(readme);
        BlendYard yard = new BlendYard();
        Matcher told = TOLD.matcher(example);
        CHECK.due(3, "README.md tells a text", told.find(), true);
        CHECK.due(3, "README.md's text", Check.tell(yard, plain(told.group(1))), Long.parseLong(told.group(2)));
        int calls = 0;
        for (String line : example.substring(told.end()).split("\n")) {
            Matcher call = CALL.matcher(line);
            if (call.matches()) {
                String got = answer(yard, call.group(1), call.group(2));
                CHECK.due(0, "README.md's " + line + " (here: " + got + ")", got.equals(call.group(3)), true);
                calls++;
            } else {
                CHECK.due(0, "README.md: a line that is a call or empty: " + line, line.isEmpty(), true);
            }
        }
        CHECK.due(0, "README.md makes its calls", calls > 25, true);
        everyCallIsTold(readme);
        CHECK.end();
    }

    /** The block of Java behind the heading. */
    private static String example(String readme) {
        int heading = readme.indexOf(HEADING);
        int from = readme.indexOf("```java\n", heading) + "```java\n".length();
        return readme.substring(from, readme.indexOf("```", from));
    }

    /** The letters of a text that stands there as pieces in quotes. */
    private static String plain(String quoted) {
        StringBuilder text = new StringBuilder();
        Matcher piece = Pattern.compile("\"([^\"]*)\"").matcher(quoted);
        while (piece.find()) {
            text.append(piece.group(1).replace("\\n", "\n"));
        }
        return text.toString();
    }

    private static String answer(BlendYard yard, String name, String arguments) throws IllegalAccessException {
        String[] written = arguments.isEmpty() ? new String[0] : arguments.split(", ");
        Object[] given = new Object[written.length];
        for (int i = 0; i < written.length; i++) {
            boolean word = written[i].equals("true") || written[i].equals("false");
            given[i] = word ? (Object) Boolean.valueOf(written[i]) : (Object) Integer.valueOf(written[i]);
        }
        for (Method m : BlendYard.class.getMethods()) {
            if (m.getName().equals(name) && m.getParameterCount() == given.length) {
                try {
                    return String.valueOf(m.invoke(yard, given));
                } catch (InvocationTargetException e) {
                    return e.getCause().getClass().getSimpleName();
                }
            }
        }
        return "no such call";
    }

    private static void everyCallIsTold(String readme) {
        Set<String> told = new HashSet<>();
        Matcher named = Pattern.compile("`(\\w+)\\(").matcher(readme.substring(readme.indexOf("### The calls")));
        while (named.find()) {
            told.add(named.group(1));
        }
        for (Method m : BlendYard.class.getDeclaredMethods()) {
            if (Modifier.isPublic(m.getModifiers())) {
                CHECK.due(0, "README.md tells of " + m.getName(), told.contains(m.getName()), true);
            }
        }
    }
}
