/** Whatever the bytes are, the calls end and throw nothing but what the document says. */
public final class AbuseTest {
    private static long seed = 20261115;

    private static int next(int bound) {
        seed = seed * 6364136223846793005L + 1442695040888963407L;
        return (int) ((seed >>> 33) % bound);
    }

    public static void main(String[] args) {
        byte[][] files = {Samples.plain().build(), forms(), new Elf().build(), bare()};
        int[] faults = new int[6];
        FrameFinder used = new FrameFinder();
        for (int run = 0; run < 20000; run++) {
            byte[] file = damaged(files[next(files.length)]);
            long[] addresses = {new long[] {0, 5, -1, 0x4000}[next(4)], 0x1025, next(0x5000)};
            FrameFinder x = new FrameFinder();
            boolean opens = opens(x, file);
            faults[x.fault()]++;
            if (opens != (x.fault() == 0) || opens != (x.count(0) > 0)) {
                Check.yes("open, fault and count agree in run " + run, false);
            }
            String answers = all(x, addresses);
            used.clear();
            opens(used, file);
            if (!all(used, addresses).equals(answers)) {
                Check.yes("a used object answers as a new one in run " + run, false);
            }
            used = x;
        }
        for (int fault = 0; fault < 6; fault++) {
            Check.yes("fault " + fault + " was met", faults[fault] > 100);
        }
        Check.end();
    }

    private static byte[] damaged(byte[] whole) {
        byte[] file = whole.clone();
        for (int i = next(4); i >= 0; i--) {
            file[next(file.length)] = (byte) (next(2) == 0 ? next(256) : next(4) == 0 ? 255 : next(4));
        }
        return java.util.Arrays.copyOf(file, next(50) == 0 ? next(file.length) : file.length);
    }

    private static boolean opens(FrameFinder x, byte[] file) {
        for (int at = 0; at < file.length; at += 8) {
            int n = Math.min(8, file.length - at);
            long bytes = 0;
            for (int i = n - 1; i >= 0; i--) {
                bytes = bytes << 8 | file[at + i] & 0xFF;
            }
            x.load(n, bytes);
        }
        return Check.tryOpen(x) != -2;
    }

    /** All answers, but of a text no more than its beginning: an object is used for 512 calls. */
    private static String all(FrameFinder x, long[] addresses) {
        StringBuilder text = new StringBuilder().append(x.fault());
        for (int what = 0; what < 6; what++) {
            text.append(' ').append(x.count(what));
        }
        for (long address : addresses) {
            int frames = Check.tryFind(x, address);
            text.append(", ").append(frames);
            for (int i = -1; i <= frames; i++) {
                frame(x, i, i >= 0 && i < frames, text);
            }
        }
        return text.toString();
    }

    private static void frame(FrameFinder x, int i, boolean there, StringBuilder text) {
        text.append(' ').append(x.line(i));
        for (int k = -1; k < 2; k++) {
            int name = x.name(i, k);
            int file = x.file(i, k);
            if (name < -1 || name > 255 || file < -1 || file > 255) {
                Check.yes("characters", false);
            }
            if ((!there || k < 0) && (name != -1 || file != -1)) {
                Check.yes("no such frame, or no such character", false);
            }
            text.append('/').append(name).append('/').append(file);
        }
    }

    /** Two units whose entries have hardly an attribute: what was kept before must not show. */
    private static byte[] bare() {
        Dwarf d = new Dwarf().abbrev(1, 0x11, 1, 0x11, 0x1B).abbrev(2, 0x2E, 0, 0x11, 0x01, 0x12, 0x05).endAbbrevs();
        d.unit(new Bytes().u1(1).uleb(1).u1(2).u8(0).u2(0x5000).u1(0));
        d.unit(new Bytes().u1(1).uleb(0).u1(2).u8(0).u2(0x6000).u1(0));
        d.addr.u8(0).u8(1);
        return d.build();
    }

    /** A file with every form and every kind of range. */
    private static byte[] forms() {
        Dwarf d = new Dwarf();
        d.abbrev(1, 0x11, 1, 0x10, 0x17, 0x72, 0x17, 0x73, 0x17, 0x74, 0x17, 0x11, 0x1B, 0x55, 0x23, 0x03, 0x25);
        d.abbrev(2, 0x2E, 1, 0x03, 0x0E, 0x55, 0x17, 0x31, 0x13, 0x2A, 0x18, 0x2B, 0x06, 0x2C, 0x05);
        d.abbrev(3, 0x1D, 0, 0x31, 0x13, 0x11, 0x1B, 0x12, 0x0D, 0x58, 0x21, 0, 0x59, 0x0F, 0x2D, 0x07, 0x2E, 0x19);
        d.endAbbrevs();
        Bytes e = new Bytes().u1(1).u4(0).u4(4).u4(8).u4(4).uleb(0).uleb(0).u1(0);
        int function = 12 + e.size();
        e.u1(2).u4(2).u4(8).u4(function).uleb(2).u2(9).u4(9).u2(9);
        e.u1(3).u4(function).uleb(0).sleb(64).uleb(99).u8(7).u1(0).u1(0);
        d.unit(e);
        d.str.text("x").text("function");
        d.strOffsets.u4(0).u4(1);
        d.addr.u8(0).u8(0x1000).u8(0x2000);
        d.rnglists.u4(0).u4(4).u1(1).uleb(0).u1(4).uleb(0).uleb(9).u1(2).uleb(0).uleb(1).u1(3).uleb(1).uleb(9);
        d.rnglists.u1(5).u8(0x3000).u1(6).u8(0x3000).u8(0x3009).u1(7).u8(0x4000).uleb(9).u1(0);
        d.line.all(new LineTable().row(0x1000, 1).row(0x1010, 5).end(0x2000).build());
        return d.symbol("s", 2, 0, 0x1000).build();
    }
}
