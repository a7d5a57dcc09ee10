import java.io.IOException;
import java.lang.reflect.Constructor;
import java.lang.reflect.Executable;
import java.lang.reflect.Field;
import java.lang.reflect.Method;
import java.lang.reflect.Modifier;
import java.nio.file.Files;
import java.nio.file.Path;
import java.util.ArrayList;
import java.util.Arrays;
import java.util.List;
import java.util.TreeSet;
import java.util.regex.Matcher;
import java.util.regex.Pattern;

/** The face of the class, and those rules of LANGUAGE.md that can be seen without running it. */
public final class LanguageTest {
    private static final String FACE = "configure/3 connect/1 resume/1 disconnect/0 send/2 close/1"
        + " deliver/1 foresee/1 drop/1 repeat/1 alter/2 tick/1 packet/2 endpoint/2 window/2 taken/2"
        + " kept/3 results/2 count/1 event/2 agree/0 append/2 runScript/0 save/0 restore/0";

    public static void main(String[] args) throws IOException {
        face();
        constants();
        for (Class<?> type : allClasses()) {
            members(type);
        }
        source(Files.readString(Path.of("src/main/java/SessionSimulator.java")));
        Due.finish("LanguageTest");
    }

    private static void hold(String what, boolean holds) {
        Due.be(what, holds ? 1 : 0, 1);
    }

    private static List<Class<?>> allClasses() {
        List<Class<?>> all = new ArrayList<>(Arrays.asList(SessionSimulator.class.getDeclaredClasses()));
        all.add(SessionSimulator.class);
        return all;
    }

    private static void face() {
        TreeSet<String> found = new TreeSet<>();
        for (Method method : SessionSimulator.class.getDeclaredMethods()) {
            if (!Modifier.isPrivate(method.getModifiers())) {
                found.add(method.getName() + "/" + method.getParameterCount());
                hold(method + " is public, no static one, and answers an int",
                    method.getModifiers() == Modifier.PUBLIC && method.getReturnType() == int.class);
                for (Class<?> parameter : method.getParameterTypes()) {
                    hold(method + " takes ints", parameter == int.class);
                }
            }
        }
        hold("the methods are those of the document: " + found,
            found.equals(new TreeSet<>(List.of(FACE.split(" ")))));
        Constructor<?>[] constructors = SessionSimulator.class.getDeclaredConstructors();
        hold("one public constructor without parameters", constructors.length == 1
            && Modifier.isPublic(constructors[0].getModifiers()) && constructors[0].getParameterCount() == 0);
        hold("the class is public and final",
            SessionSimulator.class.getModifiers() == (Modifier.PUBLIC | Modifier.FINAL));
    }

    private static void constants() {
        Due.be("NONE", SessionSimulator.NONE, -1000000001);
        Due.be("BAD_ARGUMENT", SessionSimulator.BAD_ARGUMENT, -1000000002);
        Due.be("FULL", SessionSimulator.FULL, -1000000003);
        Due.be("STATE", SessionSimulator.STATE, -1000000004);
        int visible = 0;
        for (Field field : SessionSimulator.class.getDeclaredFields()) {
            visible += Modifier.isPrivate(field.getModifiers()) ? 0 : 1;
        }
        Due.be("four constants are visible", visible, 4);
        hold("at most twelve classes", allClasses().size() <= 12);
    }

    private static void members(Class<?> type) {
        int fields = 0;
        for (Field field : type.getDeclaredFields()) {
            boolean isStatic = Modifier.isStatic(field.getModifiers());
            hold(field + " is final if it is static", !isStatic || Modifier.isFinal(field.getModifiers()));
            fields += isStatic ? 0 : 1;
        }
        hold(type + " has at most twenty fields", fields <= 20);
        hold(type + " is static or the class itself",
            type == SessionSimulator.class || Modifier.isStatic(type.getModifiers()));
        List<Executable> code = new ArrayList<>(Arrays.asList(type.getDeclaredMethods()));
        code.addAll(Arrays.asList(type.getDeclaredConstructors()));
        for (Executable method : code) {
            hold(method + " takes at most seven parameters", method.getParameterCount() <= 7);
            boolean hidden = type != SessionSimulator.class || Modifier.isPrivate(method.getModifiers());
            hold(method + " bears a name of its own",
                !hidden || !(" " + FACE).contains(" " + method.getName() + "/"));
        }
    }

    private static void source(String source) {
        String code = source.replaceAll("(?s)/\\*.*?\\*/", "").replaceAll("//[^\n]*", "");
        Matcher words = Pattern.compile("\\b(throws?|try|catch|finally|synchronized|assert|import|package"
            + "|double|float|Object|Exception|System\\.(?!arraycopy)\\w+|Thread|Random|toString|hashCode"
            + "|equals|super|volatile|transient|native|strictfp|\\w+Exact|static \\{)|->|::|\"|@").matcher(code);
        hold("a word that the rules rule out: " + (words.find() ? words.group() : ""), words.reset().results().count() == 0);
        hold("the source is ASCII without tabs", source.chars().allMatch(c -> c == '\n' || c >= 32 && c < 127));
        int start = 0;
        String[] lines = source.split("\n");
        for (int i = 0; i < lines.length; i++) {
            if (lines[i].matches(" {4}( {4})?\\S.*\\) \\{")) {
                start = i;
            }
            if (lines[i].matches(" {4}( {4})?}")) {
                hold("the method that ends at line " + (i + 1) + " is short",
                    i - start < 60 || lines[i].equals("    }") && lines[i - 1].equals("        }"));
            }
            hold("line " + (i + 1) + " is at most 110 long", lines[i].length() <= 110);
        }
    }
}
