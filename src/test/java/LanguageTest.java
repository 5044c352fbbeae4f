import java.lang.reflect.Constructor;
import java.lang.reflect.Field;
import java.lang.reflect.Method;
import java.lang.reflect.Modifier;
import java.nio.file.Files;
import java.nio.file.Path;
import java.util.List;
import java.util.Set;
import java.util.TreeSet;
import java.util.regex.Matcher;
import java.util.regex.Pattern;

/** Those rules of ../shared/LANGUAGE.md that can be seen from the class and from its text. */
public final class LanguageTest {
    private static final String FACE = "about/2 as/2 blank/0 by/2 count/1 day/0 digest/0 fault/1 hands/4 image/0 lend/2 letter/1"
            + " reach/1 restore/0 round/2 spoilers/3 thing/1 thingOf/2 town/0 wished/3 years/3";
    private static final String CONSTANTS = "FULL NONE OUTSIDE STATE UNKNOWN";
    private static final Set<String> FACE_NAMES = Set.of(FACE.replaceAll("/\\d", "").split(" "));
    private static int wrong = 0;

    private static void must(boolean holds, String what) {
        if (!holds) {
            wrong++;
            System.out.println("LANGUAGE.md: " + what);
        }
    }

    private static void face() {
        Set<String> open = new TreeSet<>();
        Set<String> hidden = new TreeSet<>();
        for (Method one : LentChanged.class.getDeclaredMethods()) {
            boolean isOpen = Modifier.isPublic(one.getModifiers());
            must(isOpen || Modifier.isPrivate(one.getModifiers()), "1: neither public nor private: " + one.getName());
            if (isOpen) open.add(one.getName() + "/" + one.getParameterCount());
            else hidden.add(one.getName());
        }
        must(String.join(" ", open).equals(FACE), "1: the methods are " + open);
        for (String name : FACE_NAMES) {
            must(!hidden.contains(name), "1: a private method bears a public name: " + name);
        }
        Set<String> constants = new TreeSet<>();
        for (Field one : LentChanged.class.getDeclaredFields()) {
            boolean isOpen = Modifier.isPublic(one.getModifiers());
            must(isOpen || Modifier.isPrivate(one.getModifiers()), "1: neither public nor private: " + one.getName());
            if (isOpen) constants.add(one.getName());
        }
        must(String.join(" ", constants).equals(CONSTANTS), "1: the constants are " + constants);
        Constructor<?>[] made = LentChanged.class.getDeclaredConstructors();
        must(made.length == 1 && made[0].getParameterCount() == 0, "1: the constructor");
        must(Modifier.isFinal(LentChanged.class.getModifiers()), "1: the class is final");
    }

    private static void classes() {
        Class<?>[] inside = LentChanged.class.getDeclaredClasses();
        must(inside.length + 1 <= 12, "11: at most some twelve classes");
        for (Class<?> one : inside) {
            must(Modifier.isStatic(one.getModifiers()) && !Modifier.isPublic(one.getModifiers()), "1: " + one.getName());
            int own = 0;
            for (Field field : one.getDeclaredFields()) {
                boolean isStatic = Modifier.isStatic(field.getModifiers());
                must(!isStatic || Modifier.isFinal(field.getModifiers()), "5: " + field.getName());
                own += isStatic ? 0 : 1;
            }
            must(own <= 20, "11: at most some twenty fields: " + one.getName());
            for (Method method : one.getDeclaredMethods()) {
                must(method.getParameterCount() <= 7, "11: at most seven parameters: " + method.getName());
                must(!List.of("equals", "hashCode", "toString").contains(method.getName()), "6: " + method.getName());
                must(!FACE_NAMES.contains(method.getName()), "1: a method inside bears a public name: " + method.getName());
            }
        }
    }

    private static void text(String source) {
        String bare = source.replaceAll("(?s)/\\*.*?\\*/", "").replaceAll("//[^\n]*", "");
        for (String word : new String[] {"import", "package", "throw", "throws", "try", "catch", "finally", "synchronized",
            "assert", "System", "Object", "Exception", "Thread", "Random", "goto"}) {
            must(!Pattern.compile("\\b" + word + "\\b").matcher(bare).find(), "the word " + word);
        }
        must(!bare.contains("->") && !bare.contains("::"), "2: a lambda or a method reference");
        must(bare.chars().allMatch(c -> c == '\n' || c >= 32 && c < 127), "3: a sign that is none of 32 to 126");
        Matcher bodies = Pattern.compile("(?m)^( {4}| {8})[a-zA-Z].*\\) \\{\n((?:\\1 .*\n|\n)*)").matcher(bare);
        while (bodies.find()) {
            must(bodies.group(2).split("\n").length <= 60, "11: a long method: " + bodies.group().split("\n")[0]);
        }
        Matcher indexes = Pattern.compile("(?m)^.*\\b[a-z]\\w*\\[[^\\]]+\\].*$").matcher(bare);
        Set<String> plain = Set.of("return place >= 0 && place < row.length ? row[place] : 0;", "row[place] = value;",
                "return place >= 0 && place < afters.length ? afters[place] : 0;", "borrowers[number] = one;",
                "return number >= 0 && number < size && number < borrowers.length ? borrowers[number] : null;");
        while (indexes.find()) {
            String line = indexes.group().strip();
            must(plain.contains(line) || line.contains("= new "), "7: look whether this index is looked at first: " + line);
        }
    }

    public static void main(String[] args) throws Exception {
        face();
        classes();
        text(Files.readString(Path.of(System.getProperty("program", "src/main/java/LentChanged.java"))));
        System.out.println("LanguageTest: " + (wrong == 0 ? "as it should be" : wrong + " wrong"));
        if (wrong != 0) {
            System.exit(1);
        }
    }
}
