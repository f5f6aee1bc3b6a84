import java.io.IOException;
import java.lang.reflect.Constructor;
import java.lang.reflect.Field;
import java.lang.reflect.Method;
import java.lang.reflect.Modifier;
import java.nio.file.Files;
import java.nio.file.Path;
import java.util.Set;
import java.util.TreeSet;
import java.util.regex.Matcher;
import java.util.regex.Pattern;

/** The document's face and those rules of LANGUAGE.md that can be looked up in the source. */
public final class LanguageTest {
    private static final Check CHECK = new Check();
    private static final int MOST_LINES = 60;

    public static void main(String[] args) throws IOException {
        face();
        others();
        classesInside();
        String source = Files.readString(Path.of(args.length > 0 ? args[0] : "src/main/java/DoorKeepsQuarrel.java"));
        words(source);
        madeInFieldsAlone(source);
        shortMethods(source);
        CHECK.end();
    }

    private static void face() throws IOException {
        Set<String> told = new TreeSet<>();
        Matcher m = Pattern.compile("    public (int|long) (\\w+)\\((.*)\\);").matcher(Files.readString(Path.of("../shared/DOC.md")));
        while (m.find()) {
            told.add(m.group(1) + " " + m.group(2) + " " + (m.group(3).isEmpty() ? 0 : m.group(3).split(",").length));
        }
        Set<String> has = new TreeSet<>();
        for (Method method : DoorKeepsQuarrel.class.getDeclaredMethods()) {
            if (Modifier.isPublic(method.getModifiers())) {
                has.add(method.getReturnType() + " " + method.getName() + " " + method.getParameterCount());
            }
        }
        CHECK.due("methods of the face", told.size(), 40);
        CHECK.so("the face is the document's", told.equals(has));
        CHECK.so("public and final", DoorKeepsQuarrel.class.getModifiers() == (Modifier.PUBLIC | Modifier.FINAL));
    }

    private static void others() {
        Set<String> names = new TreeSet<>();
        for (Method m : DoorKeepsQuarrel.class.getMethods()) {
            names.add(m.getName());
        }
        for (Method m : DoorKeepsQuarrel.class.getDeclaredMethods()) {
            boolean open = Modifier.isPublic(m.getModifiers());
            CHECK.so(m + " is public or private", open || Modifier.isPrivate(m.getModifiers()));
            CHECK.so(m + " has its own name", open || !names.contains(m.getName()));
            CHECK.so(m + " has seven parameters at most", m.getParameterCount() <= 7);
        }
        for (Field f : DoorKeepsQuarrel.class.getDeclaredFields()) {
            CHECK.so(f + " is private", Modifier.isPrivate(f.getModifiers()));
        }
        Constructor<?>[] made = DoorKeepsQuarrel.class.getDeclaredConstructors();
        CHECK.due("constructors", made.length, 1);
        CHECK.due("its parameters", made[0].getParameterCount(), 0);
    }

    private static void classesInside() {
        Class<?>[] inside = DoorKeepsQuarrel.class.getDeclaredClasses();
        CHECK.so("twelve classes at most", inside.length < 12);
        for (Class<?> c : inside) {
            CHECK.so(c + " is static", Modifier.isStatic(c.getModifiers()));
            CHECK.so(c + " is not public", !Modifier.isPublic(c.getModifiers()) && !Modifier.isProtected(c.getModifiers()));
            for (Field f : c.getDeclaredFields()) {
                CHECK.so(f + " is final if static", !Modifier.isStatic(f.getModifiers()) || Modifier.isFinal(f.getModifiers()));
            }
        }
        for (Field f : DoorKeepsQuarrel.class.getDeclaredFields()) {
            CHECK.so(f + " is final if static", !Modifier.isStatic(f.getModifiers()) || Modifier.isFinal(f.getModifiers()));
        }
    }

    private static String withoutComments(String source) {
        return source.replaceAll("(?s)/\\*.*?\\*/", "").replaceAll("//[^\n]*", "");
    }

    private static void words(String source) {
        String code = withoutComments(source);
        String[] never = {"\\bthrows?\\b", "\\btry\\b", "\\bcatch\\b", "\\bsynchronized\\b", "\\bassert\\b", "\\bimport\\b",
            "\\bpackage\\b", "->", "::", "Exact\\(", "\\bSystem\\b", "\\bdouble\\b", "\\bfloat\\b", "\\bObject\\b",
            "\\bequals\\b", "\\bhashCode\\b", "\\btoString\\b", "\\bwhile\\b", "[^\\x00-\\x7f]"};
        for (String word : never) {
            CHECK.so("no " + word, !Pattern.compile(word).matcher(code).find());
        }
    }

    /** All calls of a run share one room, so no call may make anything. */
    private static void madeInFieldsAlone(String source) {
        for (String line : withoutComments(source).split("\n")) {
            if (Pattern.compile("\\bnew\\b").matcher(line).find()) {
                CHECK.so("made in a field: " + line.trim(), line.matches("\\s+(private )?final \\S+ \\w+ = new [^;]*;"));
            }
        }
    }

    private static void shortMethods(String source) {
        String[] lines = source.split("\n");
        for (int i = 0; i < lines.length; i++) {
            Matcher head = Pattern.compile("( +)[\\w\\[\\] ]+\\([^()]*\\) \\{").matcher(lines[i]);
            if (head.matches()) {
                int end = i;
                while (!lines[end].equals(head.group(1) + "}")) {
                    end++;
                }
                CHECK.so("short: " + lines[i].trim(), end - i < MOST_LINES);
            }
        }
    }
}
