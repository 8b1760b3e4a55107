import java.io.IOException;
import java.lang.reflect.Field;
import java.lang.reflect.Method;
import java.lang.reflect.Modifier;
import java.nio.file.Files;
import java.nio.file.Path;
import java.util.Set;
import java.util.TreeSet;
import java.util.regex.Matcher;
import java.util.regex.Pattern;

/** Those rules of LANGUAGE.md that can be seen from the text of the class and from its face. */
public final class LanguageTest {
    private static final Path SOURCE = Path.of("src/main/java/BreatheAsOne.java");
    private static final String FORBIDDEN = "\\b(throw|throws|try|catch|synchronized|assert|yield|protected|package|Exact"
        + "|hashCode|toString|getClass|Random|Thread|Object|System\\.(?!arraycopy)\\w+)\\b|->|::|@|addExact|multiplyExact|\\bstatic \\{";
    private static int wrong = 0;

    private static void say(String what) {
        wrong++;
        System.out.println(what);
    }

    private static String withoutTextAndComments(String source) {
        return source.replaceAll("(?s)/\\*.*?\\*/", "").replaceAll("\"[^\"\n]*\"", "\"\"").replaceAll("//[^\n]*", "");
    }

    private static void checkWords(String code) {
        Matcher m = Pattern.compile(FORBIDDEN).matcher(code);
        while (m.find()) say("a word outside the language: " + m.group());
        m = Pattern.compile("import ([^;]+);").matcher(code);
        while (m.find()) if (!m.group(1).equals("java.util.Arrays")) say("an import outside the language: " + m.group(1));
    }

    private static void checkFace() {
        Set<String> publics = new TreeSet<>();
        for (Method m : BreatheAsOne.class.getDeclaredMethods()) {
            if (Modifier.isPublic(m.getModifiers())) publics.add(m.getName());
            else if (!Modifier.isPrivate(m.getModifiers())) say("a method that is neither public nor private: " + m);
        }
        if (publics.size() != 42) say("the face has " + publics.size() + " methods");
        for (Field f : BreatheAsOne.class.getDeclaredFields()) {
            boolean none = f.getName().equals("NONE");
            if (none != Modifier.isPublic(f.getModifiers()) || !none && !Modifier.isPrivate(f.getModifiers())) say("a field: " + f);
        }
        int classes = 1;
        for (Class<?> c : BreatheAsOne.class.getDeclaredClasses()) {
            classes++;
            if (!Modifier.isStatic(c.getModifiers()) || Modifier.isPublic(c.getModifiers())) say("a class: " + c);
            int fields = 0;
            for (Field f : c.getDeclaredFields()) if (!Modifier.isStatic(f.getModifiers())) fields++;
            if (fields > 20) say(c + " has " + fields + " fields");
            for (Method m : c.getDeclaredMethods()) {
                if (publics.contains(m.getName())) say("a method inside bears a public name: " + m);
                if (m.getParameterCount() > 7) say("too many parameters: " + m);
            }
        }
        if (classes > 12) say(classes + " classes");
        if (!Modifier.isFinal(BreatheAsOne.class.getModifiers())) say("the class is not final");
    }

    public static void main(String[] args) throws IOException {
        checkWords(withoutTextAndComments(Files.readString(SOURCE)));
        checkFace();
        System.out.println(wrong == 0 ? "the language is kept" : wrong + " rules are not kept");
        if (wrong != 0) System.exit(1);
    }
}
