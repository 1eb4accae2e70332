/** Promise 2: load. */
public final class LoadTest {
    public static void main(String[] args) {
        counts();
        bytes();
        limit();
        rest();
        order();
        reading();
        Check.end();
    }

    private static void counts() {
        FrameFinder x = new FrameFinder();
        int[] refused = {0, 9, -1, 16, 64, Integer.MIN_VALUE, Integer.MAX_VALUE};
        for (int n : refused) {
            Check.no("load(" + n + ")", x.load(n, 1));
        }
        for (int n = 1; n <= 8; n++) {
            Check.yes("load(" + n + ")", x.load(n, -1));
        }
    }

    /** Of what is given only the n lowest bytes count, and what is refused leaves nothing. */
    private static void bytes() {
        // Small, for an object is used for 512 calls only.
        byte[] file = new Elf().build();
        for (int n = 1; n <= 8; n++) {
            FrameFinder x = new FrameFinder();
            for (int at = 0; at < file.length; at += n) {
                int now = Math.min(n, file.length - at);
                long bytes = now == 8 ? 0 : -1L << (8 * now);
                for (int i = 0; i < now; i++) {
                    bytes |= (file[at + i] & 0xFFL) << (8 * i);
                }
                Check.no("load(9)", x.load(9, bytes));
                Check.yes("load(" + now + ")", x.load(now, bytes));
            }
            Check.same("open() by " + n, Check.tryOpen(x), 0);
            Check.same("sections by " + n, x.count(0), 2);
        }
    }

    private static void limit() {
        Elf elf = Samples.plain().elf();
        elf.padding = 3000 - elf.build().length;
        byte[] file = elf.build();
        Check.same("a file of the most bytes", file.length, 3000);
        FrameFinder x = new FrameFinder();
        Check.load(x, file);
        Check.no("load(1) beyond", x.load(1, 0));
        Check.no("load(8) beyond", x.load(8, 0));
        Check.same("open() of the most bytes", Check.tryOpen(x), 6);
        FrameFinder y = new FrameFinder();
        for (int i = 0; i < 374; i++) {
            Check.yes("load(8)", y.load(8, 0));
        }
        Check.yes("load(7)", y.load(7, 0));
        Check.no("load(2) of one too many", y.load(2, 0));
        Check.yes("load(1) up to the end", y.load(1, 0));
        Check.no("load(1) of one too many", y.load(1, 0));
    }

    /** Every n where so many bytes are left: what is refused leaves as much room as before. */
    private static void rest() {
        for (int left = 0; left <= 8; left++) {
            for (int n = -1; n <= 10; n++) {
                FrameFinder x = new FrameFinder();
                for (int i = 0; i < 374; i++) {
                    Check.yes("load(8)", x.load(8, 0));
                }
                Check.same("load() up to what is left", x.load(8 - left, 0) ? 1 : 0, left < 8 ? 1 : 0);
                boolean due = n >= 1 && n <= 8 && n <= left;
                Check.same("load(" + n + ") of " + left, x.load(n, -1) ? 1 : 0, due ? 1 : 0);
                int still = due ? left - n : left;
                Check.no("one more than is left then", x.load(still + 1, -1));
                Check.same("what is left then", x.load(still, -1) ? 1 : 0, still > 0 ? 1 : 0);
                Check.no("none then", x.load(1, -1));
            }
        }
    }

    /** The lowest byte first, whatever stands above the n lowest. */
    private static void order() {
        byte[] file = new Elf().build();
        for (int n = 1; n <= 8; n++) {
            FrameFinder x = new FrameFinder();
            long head = 0x0001010246_4C457FL;
            Check.yes("load() of the first bytes", x.load(n, n == 8 ? head : head | -1L << (8 * n)));
            for (int at = n; at < file.length; at++) {
                Check.yes("load(1)", x.load(1, file[at] & 0xFF | 0x5A00));
            }
            Check.same("open()", Check.tryOpen(x), 0);
        }
    }

    private static void reading() {
        FrameFinder x = Check.opened("read", Samples.plain().build());
        Check.same("find", Check.tryFind(x, 0x1000), 1);
        Check.no("refused", x.load(0, 0));
        Check.same("count(2) behind a refused one", x.count(2), 6);
        Check.same("line(0) behind a refused one", x.line(0), 5);
        Check.yes("load(1)", x.load(1, 0));
        Check.same("count(2) behind load", x.count(2), -1);
        Check.same("line(0) behind load", x.line(0), -1);
        Check.same("name(0, 0) behind load", x.name(0, 0), -1);
        Check.same("file(0, 0) behind load", x.file(0, 0), -1);
        Check.same("find behind load", Check.tryFind(x, 0x1000), -2);
        Check.same("open() again", Check.tryOpen(x), 6);
    }
}
