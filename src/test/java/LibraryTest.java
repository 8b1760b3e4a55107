import java.io.DataInputStream;
import java.io.IOException;
import java.io.InputStream;
import java.nio.file.Files;
import java.nio.file.Path;
import java.util.List;
import java.util.Set;

/** Rules of LANGUAGE.md that show best in what javac made: what of the library is called, and how long a method is. */
public final class LibraryTest {
    private static final Path SOURCE = Path.of("src/main/java/BreatheAsOne.java");
    private static final int MOST_LINES = 60;
    private static final Set<String> ALLOWED = Set.of("java/lang/Object.<init>", "java/lang/System.arraycopy",
        "java/util/Arrays.copyOf", "java/util/Arrays.copyOfRange", "java/util/Arrays.fill",
        "java/lang/String.length", "java/lang/String.charAt", "java/lang/String.indexOf",
        "java/lang/Math.max", "java/lang/Math.min", "java/lang/Math.abs", "java/lang/Math.floorMod", "java/lang/Math.floorDiv",
        "java/lang/Integer.bitCount", "java/lang/Integer.signum");

    private static int wrong = 0;
    private static int called = 0;

    private static void say(String what) {
        wrong++;
        System.out.println(what);
    }

    /** The constants of one class file, by the numbers that javac gave them. */
    private static final class Constants {
        private final int[] tags;
        private final int[] firsts;
        private final int[] seconds;
        private final String[] words;

        Constants(DataInputStream in) throws IOException {
            in.readInt();
            in.readInt();
            int count = in.readUnsignedShort();
            tags = new int[count];
            firsts = new int[count];
            seconds = new int[count];
            words = new String[count];
            for (int i = 1; i < count; i += tags[i] == 5 || tags[i] == 6 ? 2 : 1) read(in, i);
        }

        private void read(DataInputStream in, int i) throws IOException {
            tags[i] = in.readUnsignedByte();
            switch (tags[i]) {
                case 1 -> words[i] = in.readUTF();
                case 3, 4 -> in.readInt();
                case 5, 6 -> in.readLong();
                case 7, 8, 16, 19, 20 -> firsts[i] = in.readUnsignedShort();
                case 15 -> {
                    in.readUnsignedByte();
                    in.readUnsignedShort();
                }
                default -> {
                    firsts[i] = in.readUnsignedShort();
                    seconds[i] = in.readUnsignedShort();
                }
            }
        }

        void check(String where) {
            for (int i = 1; i < tags.length; i++) {
                if (tags[i] >= 15 && tags[i] <= 18) say(where + " has a lambda, a method reference or texts joined by +");
                if (tags[i] < 9 || tags[i] > 11) continue;
                String member = words[firsts[firsts[i]]] + "." + words[firsts[seconds[i]]];
                called++;
                if (!member.startsWith("BreatheAsOne") && !ALLOWED.contains(member)) say(where + " uses " + member);
            }
        }
    }

    private static void checkClass(Class<?> c) throws IOException {
        try (InputStream in = c.getResourceAsStream("/" + c.getName() + ".class")) {
            if (in == null) say("no class file of " + c.getName());
            else new Constants(new DataInputStream(in)).check(c.getName());
        }
        for (Class<?> inside : c.getDeclaredClasses()) checkClass(inside);
    }

    /** A method begins and ends at the depth of its class's members. */
    private static void checkLengths(List<String> lines) {
        for (int i = 0; i < lines.size(); i++) {
            String line = lines.get(i);
            String indent = line.replaceAll("\\S.*", "");
            boolean begins = line.matches(" {4}( {4})?[\\w<>\\[\\] ]+\\(.*") && !line.contains(";") && !line.matches(" +(if|for|while|switch).*");
            if (!begins) continue;
            int end = i;
            while (end < lines.size() && !lines.get(end).equals(indent + "}")) end++;
            if (end - i + 1 > MOST_LINES) say("a method of " + (end - i + 1) + " lines: " + line.trim());
        }
    }

    public static void main(String[] args) throws IOException {
        checkClass(BreatheAsOne.class);
        checkLengths(Files.readAllLines(SOURCE));
        if (called == 0) say("no class file was read");
        System.out.println(wrong == 0 ? "the library's part is kept to" : wrong + " rules are not kept");
        if (wrong != 0) System.exit(1);
    }
}
