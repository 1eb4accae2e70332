import java.io.DataInputStream;
import java.io.IOException;
import java.lang.reflect.Field;
import java.lang.reflect.Method;
import java.lang.reflect.Modifier;
import java.nio.file.Files;
import java.nio.file.Path;
import java.util.ArrayList;
import java.util.HashMap;
import java.util.List;
import java.util.Map;
import java.util.Set;
import java.util.TreeSet;

/** The rules of LANGUAGE.md that can be seen in the source, or in the classes that javac makes of it. */
public final class LanguageTest {
    private static final int MOST_CLASSES = 12;
    private static final int MOST_FIELDS = 20;
    private static final int MOST_PARAMETERS = 7;
    private static final int MOST_LINES = 60;
    private static final Set<String> LIBRARY = Set.of(
        "java/lang/Object.<init>", "java/lang/String.length", "java/lang/String.charAt",
        "java/lang/IllegalArgumentException.<init>", "java/lang/IllegalStateException.<init>");
    private static final String[] NOT_WRITTEN = {
        "package", "import", "->", "::", "try", "catch", "finally", "synchronized", "assert", "native", "volatile",
        "transient", "Thread", "System", "Exact", "toString", "hashCode", "equals", "static {", "double", "float"};

    public static void main(String[] args) throws IOException {
        List<Class<?>> all = new ArrayList<>(List.of(FrameFinder.class.getDeclaredClasses()));
        all.add(FrameFinder.class);
        Check.yes("some twelve classes", all.size() <= MOST_CLASSES);
        for (Class<?> c : all) {
            shape(c);
            fields(c);
            methods(c);
            library(c);
        }
        source();
        Check.end();
    }

    private static void shape(Class<?> c) {
        if (c != FrameFinder.class) {
            Check.yes(c + " is static", Modifier.isStatic(c.getModifiers()));
            Check.no(c + " is of the face", Modifier.isPublic(c.getModifiers()) || Modifier.isProtected(c.getModifiers()));
            Check.same(c + " has classes inside", c.getDeclaredClasses().length, 0);
        }
    }

    private static void fields(Class<?> c) {
        int own = 0;
        for (Field f : c.getDeclaredFields()) {
            boolean isStatic = Modifier.isStatic(f.getModifiers());
            own += isStatic ? 0 : 1;
            Check.yes(f + ", static, is final", !isStatic || Modifier.isFinal(f.getModifiers()));
        }
        Check.yes("some twenty fields of " + c, own <= MOST_FIELDS);
    }

    private static void methods(Class<?> c) {
        Set<String> face = new TreeSet<>();
        for (Method m : FrameFinder.class.getDeclaredMethods()) {
            if (Modifier.isPublic(m.getModifiers())) {
                face.add(m.getName());
            }
        }
        for (Method m : c.getDeclaredMethods()) {
            Check.yes("parameters of " + m, m.getParameterCount() <= MOST_PARAMETERS);
            boolean isOfTheFace = c == FrameFinder.class && Modifier.isPublic(m.getModifiers());
            Check.yes(m + " bears a name of the face", isOfTheFace || !face.contains(m.getName()));
        }
    }

    /** Every method that a class calls is its own file's, or one that the rules let it call. */
    private static void library(Class<?> c) throws IOException {
        Map<Integer, String> texts = new HashMap<>();
        Map<Integer, int[]> pairs = new HashMap<>();
        List<Integer> calls = new ArrayList<>();
        try (DataInputStream in = new DataInputStream(c.getResourceAsStream("/" + c.getName() + ".class"))) {
            in.readLong();
            int total = in.readUnsignedShort();
            for (int i = 1; i < total; i++) {
                int kind = in.readUnsignedByte();
                switch (kind) {
                    case 1: texts.put(i, in.readUTF()); break;
                    case 3: case 4: in.readInt(); break;
                    case 5: case 6: in.readLong(); i++; break;
                    case 7: case 8: case 16: case 19: case 20: pairs.put(i, new int[] {in.readUnsignedShort()}); break;
                    case 15: in.readUnsignedByte(); in.readUnsignedShort(); break;
                    default:
                        pairs.put(i, new int[] {in.readUnsignedShort(), in.readUnsignedShort()});
                        if (kind == 10 || kind == 11) {
                            calls.add(i);
                        }
                        Check.no(c + " has a lambda, or joins texts by +", kind == 18);
                }
            }
        }
        for (int i : calls) {
            String owner = texts.get(pairs.get(pairs.get(i)[0])[0]);
            String call = owner + "." + texts.get(pairs.get(pairs.get(i)[1])[0]);
            Check.yes(c + " calls " + call, owner.startsWith("FrameFinder") || LIBRARY.contains(call));
        }
    }

    private static void source() throws IOException {
        List<String> lines = Files.readAllLines(Path.of("src/main/java/FrameFinder.java"));
        int begin = -1;
        int methods = 0;
        for (int i = 0; i < lines.size(); i++) {
            String line = lines.get(i);
            String code = line.replaceAll("^\\s*(/\\*\\*|\\*|//).*", "").replaceAll("\"[^\"]*\"", "\"\"");
            for (String word : NOT_WRITTEN) {
                String sought = word.matches("\\w+") ? ".*\\b" + word + "\\b.*" : ".*\\Q" + word + "\\E.*";
                Check.no("line " + (i + 1) + " has " + word, code.matches(sought));
            }
            if (line.matches("( {4}| {8})\\w[^;=]*\\) (throws \\w+ )?\\{")) {
                begin = i;
            } else if (begin >= 0 && line.matches("( {4}| {8})\\}")) {
                Check.yes("the method at line " + (begin + 1) + " is short", i - begin < MOST_LINES);
                begin = -1;
                methods++;
            }
        }
        Check.yes("the methods were seen", methods > 80);
    }
}
