import java.lang.reflect.Array;
import java.lang.reflect.Field;
import java.lang.reflect.Modifier;
import java.util.ArrayDeque;
import java.util.Collections;
import java.util.IdentityHashMap;
import java.util.Set;

/** What it is: an object is used for at most 512 calls, so the 512th answers as any other does. */
public final class CallsTest {
    private static final int MOST = 512;
    private static final int MOST_OBJECTS = 600000;
    private static final int MOST_ELEMENTS = 7300000;

    public static void main(String[] args) throws IllegalAccessException {
        for (int last = 0; last < 9; last++) {
            lastCall(last);
        }
        opens();
        faults();
        refused();
        room();
        Check.end();
    }

    /** The largest file, read, with so many calls made. */
    private static FrameFinder busy(int calls) {
        Elf elf = Samples.plain().elf();
        elf.padding = 3000 - elf.build().length;
        FrameFinder x = new FrameFinder();
        Check.load(x, elf.build());
        Check.same("open() of the largest file", Check.tryOpen(x), 6);
        for (int made = 3000 / 8 + 1; made < calls; made++) {
            Check.same("find() as call " + (made + 1), Check.tryFind(x, 0x1025), 2);
        }
        return x;
    }

    /** Each method as the 512th call. */
    private static void lastCall(int which) {
        FrameFinder x = busy(MOST - 1);
        switch (which) {
            case 0: Check.no("load() at last", x.load(1, 0)); break;
            case 1: x.clear(); break;
            case 2: Check.same("open() at last", Check.tryOpen(x), 6); break;
            case 3: Check.same("fault() at last", x.fault(), 0); break;
            case 4: Check.same("count() at last", x.count(4), 4); break;
            case 5: Check.same("find() at last", Check.tryFind(x, 0x1000), 1); break;
            case 6: Check.same("name() at last", x.name(1, 3), 'n'); break;
            case 7: Check.same("file() at last", x.file(0, 2), 'h'); break;
            default: Check.same("line() at last", x.line(1), 77);
        }
    }

    private static void opens() {
        byte[] file = Samples.ALL;
        FrameFinder x = Check.loaded(file);
        for (int made = (file.length + 7) / 8; made < MOST - 2; made++) {
            Check.same("open() as call " + (made + 1), Check.tryOpen(x), 3);
        }
        Check.same("find() behind many open()", Check.tryFind(x, 0x1010), 2);
        Check.same("line() behind many open()", x.line(0), 7);
    }

    private static void faults() {
        FrameFinder x = new FrameFinder();
        for (int made = 0; made < MOST; made += 2) {
            Check.same("open() as call " + (made + 1), Check.tryOpen(x), -2);
            Check.same("find() as call " + (made + 2), Check.tryFind(x, made), -2);
        }
    }

    /** What is refused takes no room of the file. */
    private static void refused() {
        byte[] file = Samples.ALL;
        FrameFinder x = new FrameFinder();
        for (int made = (file.length + 7) / 8; made < MOST - 2; made++) {
            Check.no("load() refused", x.load(made % 2 == 0 ? 9 : 0, -1));
        }
        Check.load(x, file);
        Check.same("open() behind many refused", Check.tryOpen(x), 3);
        Check.same("count() behind many refused", x.count(2), 3);
    }

    /** Objects and elements in reach of an object: no call adds to them. */
    private static void room() throws IllegalAccessException {
        int[] before = held(new FrameFinder());
        int[] after = held(busy(MOST));
        Check.same("objects behind all calls", after[0], before[0]);
        Check.same("elements behind all calls", after[1], before[1]);
        Check.yes("objects", after[0] <= MOST_OBJECTS / 100);
        Check.yes("elements", after[1] <= MOST_ELEMENTS / 100);
    }

    private static int[] held(Object root) throws IllegalAccessException {
        Set<Object> seen = Collections.newSetFromMap(new IdentityHashMap<>());
        ArrayDeque<Object> open = new ArrayDeque<>();
        open.add(root);
        int elements = 0;
        while (!open.isEmpty()) {
            Object now = open.poll();
            if (!seen.add(now)) {
                continue;
            }
            if (now.getClass().isArray()) {
                elements += arrayOf(now, open);
            } else {
                elements += fieldsOf(now, open);
            }
        }
        return new int[] {seen.size(), elements};
    }

    private static int arrayOf(Object array, ArrayDeque<Object> open) {
        int length = Array.getLength(array);
        for (int i = 0; i < length && !array.getClass().getComponentType().isPrimitive(); i++) {
            if (Array.get(array, i) != null) {
                open.add(Array.get(array, i));
            }
        }
        return length;
    }

    private static int fieldsOf(Object object, ArrayDeque<Object> open) throws IllegalAccessException {
        int fields = 0;
        boolean isOwn = object.getClass().getName().startsWith("FrameFinder");
        for (Field f : isOwn ? object.getClass().getDeclaredFields() : new Field[0]) {
            if (Modifier.isStatic(f.getModifiers())) {
                continue;
            }
            fields++;
            f.setAccessible(true);
            if (!f.getType().isPrimitive() && f.get(object) != null) {
                open.add(f.get(object));
            }
        }
        return fields;
    }
}
