import java.lang.reflect.Constructor;
import java.lang.reflect.Field;
import java.lang.reflect.Method;
import java.lang.reflect.Modifier;
import java.util.TreeSet;

/** The face of the class: just what the document has. */
public final class FaceTest {
    public static void main(String[] args) {
        Class<?> c = FrameFinder.class;
        Check.yes("public", Modifier.isPublic(c.getModifiers()));
        Check.yes("final", Modifier.isFinal(c.getModifiers()));
        TreeSet<String> face = new TreeSet<>();
        for (Method m : c.getDeclaredMethods()) {
            if (!Modifier.isPrivate(m.getModifiers())) {
                face.add(m.toString().replace("FrameFinder.", ""));
            }
        }
        for (Field f : c.getDeclaredFields()) {
            if (!Modifier.isPrivate(f.getModifiers())) {
                face.add(f.toString());
            }
        }
        for (Constructor<?> k : c.getDeclaredConstructors()) {
            face.add(k.toString());
        }
        TreeSet<String> due = new TreeSet<>();
        due.add("public static final int FrameFinder.NONE");
        due.add("public FrameFinder()");
        due.add("public boolean load(int,long)");
        due.add("public void clear()");
        due.add("public int open() throws java.lang.IllegalArgumentException");
        due.add("public int fault()");
        due.add("public int count(int)");
        due.add("public int find(long) throws java.lang.IllegalStateException");
        due.add("public int name(int,int)");
        due.add("public int file(int,int)");
        due.add("public int line(int)");
        Check.same("the face", face.toString(), due.toString());
        Check.same("NONE", FrameFinder.NONE, -1);
        Check.end();
    }
}
