import java.io.IOException;
import java.lang.reflect.Constructor;
import java.lang.reflect.Field;
import java.lang.reflect.Method;
import java.lang.reflect.Modifier;
import java.nio.file.Files;
import java.nio.file.Path;
import java.util.ArrayList;
import java.util.HashSet;
import java.util.List;
import java.util.Set;
import java.util.TreeSet;
import java.util.regex.Matcher;
import java.util.regex.Pattern;

/** The document's face, no more and no less, and those rules of LANGUAGE.md that can be read off the file. */
public final class FaceTest {
    private static final Check CHECK = new Check("FaceTest");
    private static final String[] FACE = {"int feed int int int int int", "int text int", "int count int", "int lot int int",
        "int ship int int", "int pile int int", "int layer int int int", "int tonnes int int int", "int stands int",
        "int apart", "int whyLay int int int int int", "int lay int int int int int", "int whyCut int int int",
        "int cut int int int", "boolean park int", "int sail int", "int days int", "int toLay int int int int int",
        "int toCut int int int", "int drop int", "int minutes int", "int ends", "int undo", "boolean image int boolean",
        "int cell int int", "int whole int", "int hold int", "int below", "int within int int int", "long spread int",
        "long spreadBelow", "int ifLaid int int int int int int", "int layOrder int int int", "long worst int int",
        "long worstBelow", "int next int int int", "int way int int int", "int fewest", "int order int", "int ready int",
        "int cost int"};

    public static void main(String[] args) throws IOException {
        face();
        inside();
        source(Files.readString(Path.of("src/main/java/BlendYard.java")));
        CHECK.end();
    }

    private static void holds(String what, boolean so) {
        CHECK.due(0, what, so, true);
    }

    private static String told(Method m) {
        StringBuilder text = new StringBuilder(m.getReturnType().getName()).append(' ').append(m.getName());
        for (Class<?> p : m.getParameterTypes()) {
            text.append(' ').append(p.getName());
        }
        return text.toString();
    }

    private static void face() {
        Class<?> c = BlendYard.class;
        holds("the class is public and final", Modifier.isPublic(c.getModifiers()) && Modifier.isFinal(c.getModifiers()));
        Set<String> got = new TreeSet<>();
        Set<String> names = new HashSet<>();
        for (Method m : c.getDeclaredMethods()) {
            if (!Modifier.isPrivate(m.getModifiers())) {
                holds(m.getName() + " is public, not static", Modifier.isPublic(m.getModifiers()) && !Modifier.isStatic(m.getModifiers()));
                got.add(told(m));
                names.add(m.getName());
            }
        }
        holds("the methods are those of the face: " + got, got.equals(new TreeSet<>(Set.of(FACE))));
        for (Class<?> inner : c.getDeclaredClasses()) {
            for (Method m : inner.getDeclaredMethods()) {
                holds(m.getName() + " is no name of the face", !names.contains(m.getName()));
            }
        }
        for (Method m : c.getDeclaredMethods()) {
            holds(m.getName() + " is no name of the face", Modifier.isPublic(m.getModifiers()) || !names.contains(m.getName()));
        }
        for (Field f : c.getDeclaredFields()) {
            holds(f.getName() + " is private", f.getName().equals("NONE") || Modifier.isPrivate(f.getModifiers()));
        }
        Constructor<?>[] made = c.getDeclaredConstructors();
        holds("one public constructor", made.length == 1 && Modifier.isPublic(made[0].getModifiers()) && made[0].getParameterCount() == 0);
        CHECK.due(0, "NONE", BlendYard.NONE, -1);
    }

    private static void inside() {
        Class<?>[] inside = BlendYard.class.getDeclaredClasses();
        holds("at most twelve classes", inside.length < 12);
        List<Class<?>> all = new ArrayList<>(List.of(inside));
        all.add(BlendYard.class);
        for (Class<?> c : all) {
            int fields = 0;
            for (Field f : c.getDeclaredFields()) {
                boolean constant = Modifier.isStatic(f.getModifiers());
                fields += constant ? 0 : 1;
                holds(f.getName() + ": no static state", !constant || Modifier.isFinal(f.getModifiers()));
            }
            holds(c.getName() + " has at most twenty fields", fields <= 20);
            holds(c.getName() + " is static", c == BlendYard.class || Modifier.isStatic(c.getModifiers()));
            for (Method m : c.getDeclaredMethods()) {
                holds(m.getName() + " takes at most seven", m.getParameterCount() <= 7);
            }
        }
    }

    private static void source(String text) {
        String bare = text.replaceAll("(?s)/\\*.*?\\*/", "").replaceAll("//[^\n]*", "").replaceAll("\"[^\"\n]*\"", "\"\"");
        holds("only signs 1 to 127", text.chars().allMatch(ch -> ch > 0 && ch < 128));
        String[] barred = {"->", "::", "\\btry\\b", "\\bcatch\\b", "\\bfinally\\b", "\\bsynchronized\\b", "\\bassert\\b",
            "\\bpackage\\b", "\\bprotected\\b", "\\bnull\\s*;", "\\bdouble\\b", "\\bfloat\\b", "\\bObject\\b", "Exact\\b",
            "\\bhashCode\\b", "\\btoString\\b", "\\bequals\\b", "@", "\"\\s*\\+|\\+\\s*\"", "\\bwhile \\(true\\)", "for \\(;;\\)"};
        for (String b : barred) {
            holds("nothing of " + b, !Pattern.compile(b).matcher(bare).find());
        }
        Matcher imports = Pattern.compile("import [^;]*;").matcher(bare);
        while (imports.find()) {
            CHECK.due(0, imports.group(), imports.group().equals("import java.util.NoSuchElementException;"), true);
        }
        Matcher thrown = Pattern.compile("throw new (\\w+)\\(\\)").matcher(bare);
        int throwsFound = 0;
        while (thrown.find()) {
            holds(thrown.group(), thrown.group(1).equals("NoSuchElementException"));
            throwsFound++;
        }
        CHECK.due(0, "throws", throwsFound, 2);
        shortMethods(bare);
    }

    private static void shortMethods(String bare) {
        String[] lines = bare.split("\n");
        for (int at = 0; at < lines.length; at++) {
            if (lines[at].matches("\\s+(private |public |static )*[\\w\\[\\]]+ \\w+\\([^;]*\\{")) {
                String indent = lines[at].replaceAll("\\S.*", "");
                int end = at;
                while (end < lines.length && !lines[end].equals(indent + "}")) {
                    end++;
                }
                holds(lines[at].trim() + " is short", end - at <= 60);
            }
        }
    }
}
