import java.lang.reflect.Method;
import java.lang.reflect.Modifier;
import java.nio.file.Files;
import java.nio.file.Path;
import java.util.regex.Matcher;
import java.util.regex.Pattern;

/** README.md: its example answers what stands behind it, and each call and constant of the face is named. */
public final class ReadmeTest {
    private static final Pattern CALL = Pattern.compile("x\\.(\\w+)\\(([-\\d, ]*)\\); +// (-?\\d+): .*");
    private static final Pattern TYPED = Pattern.compile("for \\(char c : \"(.*)\"\\.toCharArray\\(\\)\\) \\{");
    private static final String MADE = "LentChanged x = new LentChanged();";
    private static int wrong = 0;
    private static int answers = 0;
    private static LentChanged x;

    private static void must(boolean holds, String what) {
        if (!holds) {
            wrong++;
            System.out.println("README.md: " + what);
        }
    }

    private static long answerOf(String name, String numbers) throws ReflectiveOperationException {
        String[] texts = numbers.isEmpty() ? new String[0] : numbers.split(", *");
        Class<?>[] kinds = new Class<?>[texts.length];
        Object[] values = new Object[texts.length];
        for (int i = 0; i < texts.length; i++) {
            kinds[i] = int.class;
            values[i] = Integer.valueOf(texts[i]);
        }
        return ((Number) LentChanged.class.getMethod(name, kinds).invoke(x, values)).longValue();
    }

    private static void follow(String line) throws ReflectiveOperationException {
        Matcher typed = TYPED.matcher(line);
        Matcher call = CALL.matcher(line);
        if (line.equals(MADE)) {
            x = new LentChanged();
        } else if (typed.matches()) {
            for (char c : typed.group(1).toCharArray()) {
                x.letter(c);
            }
        } else if (call.matches()) {
            answers++;
            long got = answerOf(call.group(1), call.group(2));
            must(got == Long.parseLong(call.group(3)), line + " answered " + got);
        } else {
            must(line.startsWith("x.letter(c);") || line.equals("}"), "a line that is not understood: " + line);
        }
    }

    private static void example(String page) throws ReflectiveOperationException {
        int begin = page.indexOf("```java\n") + 8;
        for (String line : page.substring(begin, page.indexOf("```", begin)).split("\n")) {
            follow(line.strip());
        }
        must(answers > 20, "the example has " + answers + " answers");
    }

    private static void face(String page) throws ReflectiveOperationException {
        for (Method one : LentChanged.class.getDeclaredMethods()) {
            if (Modifier.isPublic(one.getModifiers())) {
                int many = one.getParameterCount();
                String numbers = many == 0 ? "" : "\\w+(, \\w+){" + (many - 1) + "}";
                must(Pattern.compile("`" + one.getName() + "\\(" + numbers + "\\)`").matcher(page).find(), "no " + one.getName());
            }
        }
        for (String name : new String[] {"NONE", "UNKNOWN", "OUTSIDE", "STATE", "FULL"}) {
            must(page.contains("`" + name + "` (" + LentChanged.class.getField(name).getInt(null)), "no " + name);
        }
    }

    public static void main(String[] args) throws Exception {
        String page = Files.readString(Path.of("README.md"));
        example(page);
        face(page);
        System.out.println("ReadmeTest: " + answers + " answers, " + wrong + " wrong");
        if (wrong != 0) {
            System.exit(1);
        }
    }
}
