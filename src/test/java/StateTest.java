/** Promises 1 to 10: what is there behind each call, and what each refused call leaves. */
public final class StateTest {
    private static final int[] EDGES = {Integer.MIN_VALUE, -2, -1, 0, 1, 2, 3, 15, 16, 17, 255, 3000, Integer.MAX_VALUE};
    private static final int[] COUNTS = {12, 1, 3, 2, 3, 1};

    public static void main(String[] args) {
        newObject();
        opening();
        failing();
        loading();
        refused();
        clearing();
        finding();
        latestFault();
        growing();
        Check.end();
    }

    private static void noFrames(String what, FrameFinder x) {
        for (int i : new int[] {-1, 0, 1}) {
            Check.same(what + ": name(" + i + ", 0)", x.name(i, 0), -1);
            Check.same(what + ": file(" + i + ", 0)", x.file(i, 0), -1);
            Check.same(what + ": line(" + i + ")", x.line(i), -1);
        }
    }

    private static void nothingRead(String what, FrameFinder x) {
        noFrames(what, x);
        for (int k = -1; k <= 6; k++) {
            Check.same(what + ": count(" + k + ")", x.count(k), -1);
        }
        Check.same(what + ": find()", Check.tryFind(x, 0x1010), -2);
        noFrames(what + ", behind find()", x);
    }

    private static void allRead(String what, FrameFinder x) {
        for (int k = 0; k < COUNTS.length; k++) {
            Check.same(what + ": count(" + k + ")", x.count(k), COUNTS[k]);
        }
        Check.same(what + ": count(-1)", x.count(-1), -1);
        Check.same(what + ": count(6)", x.count(6), -1);
    }

    private static void twoFrames(String what, FrameFinder x) {
        Check.same(what + ": name 0", Check.name(x, 0), "in");
        Check.same(what + ": name 1", Check.name(x, 1), "fun");
        Check.same(what + ": file 0", Check.file(x, 0), "x.c");
        Check.same(what + ": file 1", Check.file(x, 1), "x.c");
        Check.same(what + ": line 0", x.line(0), 7);
        Check.same(what + ": line 1", x.line(1), 5);
        Check.same(what + ": line 2", x.line(2), -1);
    }

    private static FrameFinder found() {
        FrameFinder x = Check.opened("found", Samples.ALL);
        Check.same("find()", Check.tryFind(x, 0x1010), 2);
        return x;
    }

    private static void newObject() {
        nothingRead("new", new FrameFinder());
        Check.same("new: fault()", new FrameFinder().fault(), 0);
        FrameFinder x = new FrameFinder();
        Check.same("new: open()", Check.tryOpen(x), -2);
        Check.same("new: fault() behind open()", x.fault(), 1);
        nothingRead("new, behind open()", x);
        FrameFinder y = new FrameFinder();
        y.clear();
        nothingRead("new, behind clear()", y);
        Check.same("new: fault() behind clear()", y.fault(), 0);
    }

    private static void opening() {
        FrameFinder x = Check.loaded(Samples.ALL);
        nothingRead("loaded", x);
        Check.same("open()", Check.tryOpen(x), 3);
        allRead("opened", x);
        noFrames("opened", x);
        Check.same("find()", Check.tryFind(x, 0x1010), 2);
        twoFrames("found", x);
        allRead("found", x);
        Check.same("open() again", Check.tryOpen(x), 3);
        noFrames("opened again", x);
        allRead("opened again", x);
        Check.same("find() again", Check.tryFind(x, 0x1010), 2);
        twoFrames("found again", x);
    }

    /** A small file with the fault, 0 being none. */
    private static byte[] bent(int fault) {
        Dwarf d = new Dwarf().abbrev(1, 0x11, 0, 0x10, 0x17, 0x03, fault == 3 ? 0x0B : 0x08).endAbbrevs();
        d.unit(new Bytes().u1(fault == 2 ? 9 : 1).u4(0).u1(0));
        LineTable table = new LineTable();
        table.lineRange = fault == 4 ? 0 : 10;
        d.line.all(table.build());
        d.symbol("s", 2, 5, 5);
        if (fault == 5) {
            d.symtab.u1(0);
        }
        byte[] file = d.build();
        file[6] = (byte) (fault == 1 ? 0 : 1);
        return file;
    }

    /** Behind open() of each fault nothing is read, whatever was before. */
    private static void failing() {
        for (int fault = 1; fault <= 5; fault++) {
            FrameFinder x = found();
            x.clear();
            Check.load(x, bent(fault));
            nothingRead("loaded with fault " + fault, x);
            Check.same("open() of fault " + fault, Check.tryOpen(x), -2);
            Check.same("fault()", x.fault(), fault);
            nothingRead("opened with fault " + fault, x);
            Check.same("open() of fault " + fault + " again", Check.tryOpen(x), -2);
            Check.same("fault() again", x.fault(), fault);
            x.clear();
            Check.load(x, bent(0));
            Check.same("open() of none", Check.tryOpen(x), 1);
            Check.same("fault() of none", x.fault(), 0);
            Check.same("find()", Check.tryFind(x, 5), 1);
            Check.same("name()", x.name(0, 0), 's');
        }
    }

    private static void loading() {
        for (int n = 1; n <= 8; n++) {
            FrameFinder x = found();
            Check.yes("load(" + n + ")", x.load(n, 0));
            nothingRead("loaded " + n + " more", x);
            Check.same("fault()", x.fault(), 0);
            Check.same("open()", Check.tryOpen(x), 3);
            allRead("opened with " + n + " more", x);
            noFrames("opened with " + n + " more", x);
        }
    }

    /** What is refused changes nothing. */
    private static void refused() {
        for (int n : new int[] {Integer.MIN_VALUE, -8, -1, 0, 9, 10, 64, 256 + 1, 3000, Integer.MAX_VALUE}) {
            FrameFinder x = found();
            Check.no("load(" + n + ")", x.load(n, -1));
            twoFrames("refused " + n, x);
            allRead("refused " + n, x);
            Check.same("open() behind it", Check.tryOpen(x), 3);
        }
        Elf elf = Samples.all().elf();
        elf.padding = 3000 - elf.build().length;
        FrameFinder x = Check.opened("full", elf.build());
        Check.same("find()", Check.tryFind(x, 0x1010), 2);
        for (int n = 1; n <= 8; n++) {
            Check.no("load(" + n + ") when full", x.load(n, -1));
        }
        twoFrames("refused when full", x);
        allRead("refused when full", x);
    }

    private static void clearing() {
        FrameFinder x = found();
        x.clear();
        nothingRead("cleared", x);
        Check.same("fault() behind clear()", x.fault(), 0);
        Check.same("open() of no bytes", Check.tryOpen(x), -2);
        Check.same("fault() of no bytes", x.fault(), 1);
        x.clear();
        x.clear();
        nothingRead("cleared twice", x);
        Check.same("fault() behind both", x.fault(), 1);
        Check.load(x, bent(0));
        Check.same("open() of another file", Check.tryOpen(x), 1);
        Check.same("its frames", Check.frames(x, 0x1010), "");
        Check.same("its frames", Check.frames(x, 9), "s@:0");
        FrameFinder y = new FrameFinder();
        for (int i = 0; i < 375; i++) {
            Check.yes("load(8)", y.load(8, -1));
        }
        Check.no("load(1) when full", y.load(1, 0));
        y.clear();
        Check.yes("load(8) when cleared", y.load(8, 0));
    }

    /** Only the frames of the latest find() are there, at every edge of i and k. */
    private static void finding() {
        FrameFinder x = found();
        FrameFinder y = found();
        String[] names = {"in", "fun"};
        for (int i : EDGES) {
            boolean there = i == 0 || i == 1;
            Check.same("line(" + i + ")", x.line(i), i == 0 ? 7 : i == 1 ? 5 : -1);
            for (int k : EDGES) {
                same("name", i, k, x.name(i, k), there ? names[i] : "");
                same("file", i, k, y.file(i, k), there ? "x.c" : "");
            }
        }
        latestFrames();
    }

    private static void same(String what, int i, int k, int got, String text) {
        Check.same(what + "(" + i + ", " + k + ")", got, k >= 0 && k < text.length() ? text.charAt(k) : -1);
    }

    private static void latestFrames() {
        FrameFinder x = found();
        Check.same("one frame", Check.tryFind(x, 0x1000), 1);
        Check.same("its name", Check.name(x, 0), "fun");
        Check.same("its line", x.line(0), 6);
        Check.same("no other line", x.line(1), -1);
        Check.same("no other name", x.name(1, 0), -1);
        Check.same("no other file", x.file(1, 0), -1);
        Check.same("a symbol", Check.tryFind(x, 0x3000), 1);
        Check.same("its name", Check.name(x, 0), "s");
        Check.same("its line", x.line(0), 0);
        Check.same("its file", x.file(0, 0), -1);
        Check.same("none", Check.tryFind(x, 0x3010), 0);
        noFrames("none", x);
        Check.same("two again", Check.tryFind(x, 0x101F), 2);
        twoFrames("two again", x);
    }

    /** fault() tells of the latest open(), whatever else was called since. */
    private static void latestFault() {
        for (int fault = 0; fault <= 5; fault++) {
            FrameFinder x = Check.loaded(bent(fault));
            Check.same("before open()", x.fault(), 0);
            Check.same("open()", Check.tryOpen(x), fault == 0 ? 1 : -2);
            Check.same("behind open()", x.fault(), fault);
            Check.tryFind(x, 5);
            x.name(0, 0);
            x.count(0);
            Check.same("behind find()", x.fault(), fault);
            Check.no("load(0)", x.load(0, 0));
            Check.same("behind a refused load()", x.fault(), fault);
            Check.yes("load(1)", x.load(1, 0));
            Check.same("behind load()", x.fault(), fault);
            x.clear();
            Check.same("behind clear()", x.fault(), fault);
            Check.same("open() of no bytes", Check.tryOpen(x), -2);
            Check.same("behind that", x.fault(), 1);
        }
    }

    /** Each open() reads all bytes anew: more of them may be well formed when less were not. */
    private static void growing() {
        byte[] file = bent(0);
        for (int cut : new int[] {0, 1, 63, 64, 65, file.length - 1}) {
            FrameFinder x = new FrameFinder();
            Check.load(x, java.util.Arrays.copyOf(file, cut));
            Check.same("open() of " + cut, Check.tryOpen(x), -2);
            Check.same("fault() of " + cut, x.fault(), 1);
            Check.load(x, java.util.Arrays.copyOfRange(file, cut, file.length));
            Check.same("open() of all", Check.tryOpen(x), 1);
            Check.same("fault() of all", x.fault(), 0);
        }
    }
}
