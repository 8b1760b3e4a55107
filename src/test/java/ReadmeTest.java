import java.io.IOException;
import java.lang.reflect.Method;
import java.lang.reflect.Modifier;
import java.nio.file.Files;
import java.nio.file.Path;
import java.util.regex.Matcher;
import java.util.regex.Pattern;

/** What README.md shows of calls and answers is so, and it names every method of the face. */
public final class ReadmeTest {
    private static final Path README = Path.of("README.md");
    private static final Path OWN_SOURCE = Path.of("src/test/java/ReadmeTest.java");
    private static final Pattern BLOCK = Pattern.compile("(?s)```java\n(.*?)```");
    private static final Pattern CALL = Pattern.compile("hall\\.(\\w+)\\((.*)\\); +// (true|false|-?\\d+)(:.*)?");
    private static final Pattern TEXT = Pattern.compile("text\\(hall, \"(.*)\"\\); +// (-?\\d+)(:.*)?");

    private static int wrong = 0;
    private static int shown = 0;
    private static BreatheAsOne hall = null;

    // README.md shows this one as it stands here.
    static int text(BreatheAsOne hall, String words) {
        hall.end(0);
        for (int i = 0; i < words.length(); i += 20) {
            int[] five = new int[5];
            for (int k = 0; k < 20; k++) {
                int sign = i + k < words.length() ? words.charAt(i + k) : ' ';
                five[k / 4] = five[k / 4] << 8 | sign;
            }
            hall.feed(five[0], five[1], five[2], five[3], five[4]);
        }
        hall.end(words.length());
        return hall.text();
    }

    private static void say(String what) {
        wrong++;
        System.out.println(what);
    }

    private static void due(String line, Object got, String want) {
        shown++;
        if (!String.valueOf(got).equals(want)) say("README.md: " + line + ", but answered " + got);
    }

    private static Object argument(String written, Class<?> type) {
        if (type == boolean.class) return Boolean.valueOf(written);
        return written.equals("NONE") ? BreatheAsOne.NONE : Integer.parseInt(written);
    }

    private static Object answer(String name, String written) throws ReflectiveOperationException {
        String[] parts = written.isEmpty() ? new String[0] : written.split(", ");
        for (Method m : BreatheAsOne.class.getMethods()) {
            if (m.getName().equals(name) && m.getParameterCount() == parts.length) {
                Object[] arguments = new Object[parts.length];
                for (int i = 0; i < parts.length; i++) arguments[i] = argument(parts[i], m.getParameterTypes()[i]);
                return m.invoke(hall, arguments);
            }
        }
        return "nothing: there is no such method";
    }

    private static void runLine(String line) throws ReflectiveOperationException {
        Matcher call = CALL.matcher(line);
        Matcher text = TEXT.matcher(line);
        if (line.equals("BreatheAsOne hall = new BreatheAsOne();")) hall = new BreatheAsOne();
        else if (call.matches()) due(line, answer(call.group(1), call.group(2)), call.group(3));
        else if (text.matches()) due(line, text(hall, text.group(1)), text.group(2));
        else say("README.md shows what is no call with its answer: " + line);
    }

    private static String withoutIndent(String code) {
        return code.replaceAll("(?m)^ +", "");
    }

    private static void checkBlocks(String readme) throws IOException, ReflectiveOperationException {
        String own = withoutIndent(Files.readString(OWN_SOURCE));
        Matcher block = BLOCK.matcher(readme);
        while (block.find()) {
            String code = block.group(1);
            if (!code.startsWith("static ")) {
                for (String line : code.split("\n")) runLine(line);
            } else if (!own.contains(withoutIndent(code))) {
                say("README.md shows another way to put a text on the tape than the one that is tested");
            }
        }
    }

    private static void checkNames(String readme) {
        for (Method m : BreatheAsOne.class.getDeclaredMethods()) {
            boolean named = readme.contains("`" + m.getName() + "`");
            if (Modifier.isPublic(m.getModifiers()) && !named) say("README.md does not name " + m.getName());
        }
    }

    public static void main(String[] args) throws IOException, ReflectiveOperationException {
        String readme = Files.readString(README);
        checkBlocks(readme);
        checkNames(readme);
        if (shown == 0) say("README.md shows no call");
        System.out.println(wrong == 0 ? shown + " answers that README.md shows are so" : wrong + " things in README.md are not so");
        if (wrong != 0) System.exit(1);
    }
}
