import java.io.IOException;
import java.lang.reflect.Field;
import java.lang.reflect.Method;
import java.lang.reflect.Modifier;
import java.nio.file.Files;
import java.nio.file.Path;
import java.util.Set;
import java.util.TreeSet;
import java.util.regex.Matcher;
import java.util.regex.Pattern;

/** The face as the document has it, and what of ../shared/LANGUAGE.md can be seen from outside. */
public final class LanguageTest {
    private static final String[] FACE = {
        "int row(int,int)", "int lay(int,int,int)", "int at(int,int)", "int tear(int)",
        "int copy(int,int,int,int,int)", "int mean(int)", "int text(int,int)", "int put(int,int,int)",
        "int fault(int)", "int well(int)", "int house(int,int)", "int mark(int,int)", "int meet(int)",
        "int pledge(int,int)", "int day()", "int undo(int)", "int keep(int)", "int on(int)", "int weight(int)",
        "int opens()", "int must()", "int holds(int)", "int part(int)", "int drink(int)", "int best(int,int)",
        "int ration()", "int frogs(int)", "int twice(int)", "int quorum(int)", "int call()", "int first()",
        "int odds(int)", "int mid(int)", "int lots(int,int)", "int asked()", "long upper()", "long lower()",
        "int count(int)", "int finding()", "int findings(int)", "long digest()"
    };

    public static void main(String[] args) throws IOException {
        face();
        members(WellLocks.class);
        for (Class<?> inside : WellLocks.class.getDeclaredClasses()) {
            members(inside);
            holds(inside + " is static", Modifier.isStatic(inside.getModifiers()));
            holds(inside + " is not public", !Modifier.isPublic(inside.getModifiers()));
        }
        source(Files.readString(Path.of(System.getProperty("program", "src/main/java/WellLocks.java"))));
        Check.end();
    }

    private static void holds(String what, boolean does) {
        Check.due(what, does ? 1 : 0, 1);
    }

    private static String told(Method m) {
        StringBuilder s = new StringBuilder(m.getReturnType().getName() + " " + m.getName() + "(");
        for (Class<?> p : m.getParameterTypes()) {
            s.append(s.charAt(s.length() - 1) == '(' ? "" : ",").append(p.getName());
        }
        return s.append(')').toString();
    }

    private static void face() {
        Set<String> due = new TreeSet<>(Set.of(FACE));
        Set<String> open = new TreeSet<>();
        for (Method m : WellLocks.class.getDeclaredMethods()) {
            if (Modifier.isPrivate(m.getModifiers())) {
                holds("private name of its own: " + m.getName(), !publicName(m.getName()));
            } else {
                holds("public: " + told(m), Modifier.isPublic(m.getModifiers()));
                open.add(told(m));
            }
        }
        holds("the face, " + open, open.equals(due));
        holds("the class is public and final", WellLocks.class.getModifiers() == (Modifier.PUBLIC | Modifier.FINAL));
        Set<String> constants = new TreeSet<>();
        for (Field f : WellLocks.class.getDeclaredFields()) {
            if (!Modifier.isPrivate(f.getModifiers())) {
                constants.add(f.getName());
            }
        }
        holds("the constants", constants.equals(Set.of("BAD", "FULL", "FINDING", "STATE", "SPENT", "NONE")));
    }

    private static boolean publicName(String name) {
        for (String line : FACE) {
            if (line.contains(" " + name + "(")) {
                return true;
            }
        }
        return false;
    }

    private static void members(Class<?> type) {
        int own = 0;
        for (Field f : type.getDeclaredFields()) {
            if (Modifier.isStatic(f.getModifiers())) {
                holds(f + " is final", Modifier.isFinal(f.getModifiers()));
            } else {
                own++;
            }
        }
        holds(type + " has not too many fields", own <= 20);
        for (Method m : type.getDeclaredMethods()) {
            holds(m + " has seven parameters at most", m.getParameterCount() <= 7);
            holds(m + " has a name of its own", type == WellLocks.class || !publicName(m.getName()));
        }
    }

    private static void source(String text) {
        String code = text.replaceAll("(?s)/\\*.*?\\*/", "").replaceAll("//[^\n]*", "")
            .replaceAll("\"[^\"\n]*\"", "\"\"");
        String[] without = {
            "\\bthrow\\b", "\\bthrows\\b", "\\btry\\b", "\\bcatch\\b", "\\bsynchronized\\b", "\\bassert\\b",
            "\\bpackage\\b", "->", "::", "\\bvar\\b", "Exact\\b", "\\bSystem\\.(?!arraycopy\\b)", "\\bThread\\b",
            "\\bMath\\.random\\b", "\\bstatic\\s*\\{", "@"
        };
        for (String word : without) {
            holds("no " + word, !Pattern.compile(word).matcher(code).find());
        }
        Matcher imports = Pattern.compile("import\\s+([\\w.]+)").matcher(code);
        while (imports.find()) {
            holds("import of " + imports.group(1),
                Set.of("java.util.Arrays", "java.util.ArrayList", "java.util.List").contains(imports.group(1)));
        }
        for (int i = 0; i < text.length(); i++) {
            holds("sign at " + i, text.charAt(i) > 0 && text.charAt(i) < 128);
        }
        holds("twelve classes at most", WellLocks.class.getDeclaredClasses().length < 12);
    }
}
