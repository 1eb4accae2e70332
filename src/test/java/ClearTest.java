/** Promise 3: clear. */
public final class ClearTest {
    public static void main(String[] args) {
        FrameFinder x = Check.opened("read", Samples.plain().build());
        Check.same("find", Check.tryFind(x, 0x1000), 1);
        x.clear();
        for (int what = 0; what < 6; what++) {
            Check.same("count(" + what + ")", x.count(what), -1);
        }
        Check.same("name(0, 0)", x.name(0, 0), -1);
        Check.same("file(0, 0)", x.file(0, 0), -1);
        Check.same("line(0)", x.line(0), -1);
        Check.same("find", Check.tryFind(x, 0x1000), -2);
        Check.same("open() of no bytes", Check.tryOpen(x), -2);
        Check.same("fault()", x.fault(), 1);
        x.clear();
        Check.same("fault() is the latest open()'s", x.fault(), 1);
        Check.load(x, Samples.plain().build());
        Check.same("open() anew", Check.tryOpen(x), 6);
        Check.same("frames", Check.frames(x, 0x1000), "main@b.h:5");
        room();
        smaller();
        Check.end();
    }

    private static void room() {
        FrameFinder x = Check.loaded(single());
        x.clear();
        for (int i = 0; i < 375; i++) {
            Check.yes("there is room for all", x.load(8, 0));
        }
        Check.no("and no more", x.load(1, 0));
    }

    private static void smaller() {
        FrameFinder x = Check.opened("larger", Samples.plain().build());
        x.clear();
        Check.load(x, single());
        Check.same("a smaller file behind a larger one", Check.tryOpen(x), 1);
        Check.same("its ranges", x.count(3), 0);
        Check.same("its rows", x.count(4), 0);
        Check.same("its symbols", x.count(5), 0);
        Check.same("its frames", Check.frames(x, 0x1000), "");
        Bytes symbol = new Bytes().u4(0).u1(2).u1(0).u2(0).u8(1).u8(9);
        x = Check.opened("a symbol", new Elf().add(".symtab", symbol).add(".strtab", new Bytes().u1(0)).build());
        Check.same("it is there", x.find(5), 1);
        x.clear();
        Check.load(x, new Elf().add(".symtab", 8, symbol).add(".strtab", new Bytes().u1(0)).build());
        Check.same("the same of kind 8", Check.tryOpen(x), 0);
        Check.same("has no symbols", x.count(5), 0);
        Check.same("and none is found", x.find(5), 0);
    }

    private static byte[] single() {
        return Samples.single(0x03, 0x08, new Bytes().text("u")).build();
    }
}
