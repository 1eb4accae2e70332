/** What the tests ask, and how many answers were not as due. */
final class Check {
    // An object is used for 512 calls only, which load no more than this beside Samples.ALL.
    private static final int MOST_WITH_ANOTHER = 2400;
    private static int asked = 0;
    private static int wrong = 0;

    private Check() { }

    static void same(String what, long got, long want) {
        asked++;
        if (got != want) {
            wrong++;
            System.out.println(what + ": answered " + got + ", due is " + want);
        }
    }

    static void same(String what, String got, String want) {
        asked++;
        if (!got.equals(want)) {
            wrong++;
            System.out.println(what + ": answered '" + got + "', due is '" + want + "'");
        }
    }

    static void yes(String what, boolean got) { same(what, got ? 1 : 0, 1); }

    static void no(String what, boolean got) { same(what, got ? 1 : 0, 0); }

    static void end() {
        System.out.println(asked + " answers, " + wrong + " not as due");
        if (wrong != 0 || asked == 0) {
            System.exit(1);
        }
    }

    static void load(FrameFinder x, byte[] file) {
        for (int at = 0; at < file.length; at += 8) {
            int n = Math.min(8, file.length - at);
            long bytes = 0;
            for (int i = n - 1; i >= 0; i--) {
                bytes = bytes << 8 | file[at + i] & 0xFF;
            }
            yes("load at " + at, x.load(n, bytes));
        }
    }

    static FrameFinder loaded(byte[] file) {
        FrameFinder x = new FrameFinder();
        load(x, file);
        return x;
    }

    /** What open() answers, -2 when it throws. */
    static int tryOpen(FrameFinder x) {
        try {
            return x.open();
        } catch (IllegalArgumentException e) {
            return -2;
        }
    }

    /** What find() answers, -2 when it throws. */
    static int tryFind(FrameFinder x, long address) {
        try {
            return x.find(address);
        } catch (IllegalStateException e) {
            return -2;
        }
    }

    /** An object that has read a well formed file. */
    static FrameFinder opened(String what, byte[] file) {
        FrameFinder x = loaded(file);
        no(what + ": open() throws", tryOpen(x) == -2);
        same(what + ": fault()", x.fault(), 0);
        return x;
    }

    /** An object that has read another file before, and found frames in it. */
    static FrameFinder used() {
        FrameFinder x = loaded(Samples.ALL);
        same("open() of the file before", tryOpen(x), 3);
        same("find() in the file before", tryFind(x, 0x1010), 2);
        x.clear();
        return x;
    }

    /** The file has a fault (0: none), as a new object says, and one that has read another file before. */
    static void fault(String what, int want, byte[] file) {
        FrameFinder x = new FrameFinder();
        fault(what, want, file, x);
        if (file.length <= MOST_WITH_ANOTHER) {
            fault(what + ", by a used object", want, file, used());
            if (want != 0) {
                recover(what, x);
            }
        }
    }

    /** Whatever fault an object has found, it reads the next file as a new one does. */
    private static void recover(String what, FrameFinder x) {
        x.clear();
        load(x, Samples.ALL);
        same(what + ": open() of another file behind it", tryOpen(x), 3);
        same(what + ": fault() of that", x.fault(), 0);
        same(what + ": find() in that", tryFind(x, 0x1010), 2);
        same(what + ": line() in that", x.line(0), 7);
    }

    private static void fault(String what, int want, byte[] file, FrameFinder x) {
        load(x, file);
        same(what + ": open() throws", tryOpen(x) == -2 ? 1 : 0, want == 0 ? 0 : 1);
        same(what + ": fault()", x.fault(), want);
        same(what + ": count(0) < 0", x.count(0) < 0 ? 1 : 0, want == 0 ? 0 : 1);
        same(what + ": find() throws", tryFind(x, 0) == -2 ? 1 : 0, want == 0 ? 0 : 1);
    }

    /** The frames of an address in a file, by a new object and by a used one. */
    static void frames(String what, byte[] file, long address, String want) {
        same(what, frames(opened(what, file), address), want);
        if (file.length > MOST_WITH_ANOTHER) {
            return;
        }
        FrameFinder x = used();
        load(x, file);
        no(what + ": open() of a used object throws", tryOpen(x) == -2);
        same(what + ", by a used object", frames(x, address), want);
    }

    static String name(FrameFinder x, int i) {
        StringBuilder text = new StringBuilder();
        int now = x.name(i, 0);
        for (int k = 1; k <= 3000 && now != FrameFinder.NONE; k++) {
            text.append((char) now);
            now = x.name(i, k);
        }
        return text.toString();
    }

    static String file(FrameFinder x, int i) {
        StringBuilder text = new StringBuilder();
        int now = x.file(i, 0);
        for (int k = 1; k <= 3000 && now != FrameFinder.NONE; k++) {
            text.append((char) now);
            now = x.file(i, k);
        }
        return text.toString();
    }

    /** All frames of an address: name@file:line, the innermost first, with spaces between. */
    static String frames(FrameFinder x, long address) {
        int n = tryFind(x, address);
        StringBuilder text = new StringBuilder();
        for (int i = 0; i < n; i++) {
            text.append(i == 0 ? "" : " ").append(name(x, i)).append('@').append(file(x, i)).append(':').append(x.line(i));
        }
        return n < 0 ? "throws" : text.toString();
    }
}
