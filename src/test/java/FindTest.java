/** Promise 7: find, the chain of an address. */
public final class FindTest {
    public static void main(String[] args) {
        plain();
        symbols();
        first();
        blocks();
        passed();
        deep();
        withoutSign();
        between();
        order();
        noOther();
        kindsOfSymbols();
        edgesOfSymbols();
        beforeSymbols();
        usedObject();
        Check.end();
    }

    private static void due(String what, FrameFinder x, long address, String frames) {
        Check.same(what + " at " + Long.toHexString(address), Check.frames(x, address), frames);
    }

    /** What stands around no file and line: @:0 for the innermost, those of the call for the others. */
    private static FrameFinder opened(String what, Bytes entries) {
        Dwarf d = Samples.tables();
        return Check.opened(what, d.unit(new Bytes().u1(Samples.BARE_UNIT).all(entries).u1(0)).build());
    }

    private static void plain() {
        FrameFinder x = Check.opened("plain", Samples.plain().build());
        due("before", x, 0xFFF, "");
        due("first", x, 0x1000, "main@b.h:5");
        due("block", x, 0x1010, "main@b.h:5");
        due("put in", x, 0x1020, "inner@b.h:6 main@b.h:77");
        due("its last", x, 0x103F, "inner@b.h:6 main@b.h:77");
        due("behind it", x, 0x1040, "main@b.h:7");
        due("in a block that does not hold it", x, 0x1090, "other@b.h:7 main@a.c:88");
        due("last", x, 0x10FF, "main@b.h:7");
        due("behind", x, 0x1100, "");
        due("without a row", x, 0x2000, "last@:0");
        due("far", x, -1, "");
        Check.same("nothing read", Check.tryFind(new FrameFinder(), 0x1000), -2);
    }

    private static void symbols() {
        Dwarf d = Samples.plain().symbol("again", 2, 0x3008, 0x10).symbol("main2", 2, 0x1000, 0x1000);
        d.symbol("wrapped", 2, -0x10, 0x10).symbol("wraps", 2, -0x20, 0x30).symbol("high", 2, -0x40, 0x10);
        d.symbol("bits", 0xF2, 0x5000, 1).symbol("no", 0x21, 0x5000, 5).symbol("none", 0x2A, 0x5000, 5);
        d.symbol("odd", 3, 0x5000, 5).symbol("even", 6, 0x5000, 5);
        FrameFinder x = Check.opened("symbols", d.build());
        due("before", x, 0x2FFF, "");
        due("first", x, 0x3000, "sym@:0");
        due("both", x, 0x3008, "sym@:0");
        due("the second only", x, 0x3010, "again@:0");
        due("its end", x, 0x3018, "");
        due("one that is no function", x, 0x4000, "");
        due("a function first", x, 0x10FF, "main@b.h:7");
        due("where the function ends", x, 0x1100, "main2@:0");
        due("a sum that wraps to 0", x, -1, "");
        due("a sum that wraps", x, -0x18, "");
        due("without sign", x, -0x31, "high@:0");
        due("the lowest four bits", x, 0x5000, "bits@:0");
        due("others", x, 0x5001, "");
        Check.same("line of a symbol", x.find(0x3000), 1);
        Check.same("line(0)", x.line(0), 0);
        Check.same("line(1)", x.line(1), -1);
    }

    /** The first function and the first that is put in count, of whatever unit and however nested. */
    private static void first() {
        Dwarf d = Samples.tables();
        Bytes a = new Bytes().u1(Samples.BARE_UNIT);
        Samples.function(a, "a", 0x100, 0x10);
        Samples.putIn(a, "p", 0x100, 8, 0, 1).u1(0);
        Samples.putIn(a, "q", 0x104, 8, 0, 2).u1(0).u1(0);
        Samples.function(a, "outer", 0x200, 0x40);
        Samples.function(a, "nested", 0x210, 0x40);
        Samples.putIn(a, "deep", 0x210, 0x40, 0, 4).u1(0).u1(0).u1(0).u1(0);
        Bytes b = new Bytes().u1(Samples.BARE_UNIT);
        Samples.function(b, "b", 0x108, 0x20).u1(0);
        Samples.function(b, "c", 0x80, 0x100);
        Samples.putIn(b, "r", 0x100, 0x30, 0, 3).u1(0).u1(0).u1(0);
        FrameFinder x = Check.opened("two units", d.unit(a).unit(b).build());
        due("the first of two put in", x, 0x104, "p@:0 a@:1");
        due("the second", x, 0x108, "q@:0 a@:2");
        due("neither", x, 0x10C, "a@:0");
        due("the second unit", x, 0x110, "b@:0");
        due("its second function", x, 0x128, "r@:0 c@:3");
        due("outer and not the one in it", x, 0x210, "outer@:0");
        due("nested alone", x, 0x240, "deep@:0 nested@:4");
    }

    private static void blocks() {
        Bytes e = new Bytes();
        Samples.function(e, "f", 0x100, 0x100);
        Samples.block(e, 0x110, 0x10).u1(Samples.BARE_BLOCK);
        Samples.putIn(e, "p", 0x100, 0x100, 0, 1);
        Samples.block(e, 0x118, 0x80);
        Samples.putIn(e, "pp", 0x100, 0x100, 0, 2).u1(0).u1(0).u1(0).u1(0).u1(0);
        e.u1(Samples.BARE_BLOCK);
        Samples.block(e, 0x140, 0x10);
        Samples.putIn(e, "q", 0x140, 0x10, 0, 3).u1(0).u1(0).u1(0).u1(0);
        FrameFinder x = opened("blocks", e);
        due("not in the block", x, 0x10F, "f@:0");
        due("in the block", x, 0x110, "p@:0 f@:1");
        due("in the block in it", x, 0x118, "pp@:0 p@:2 f@:1");
        due("behind the block", x, 0x120, "f@:0");
        due("bare block first", x, 0x140, "q@:0 f@:3");
        halfBlocks();
    }

    /** Blocks with a low only, a high only, an empty list. */
    private static void halfBlocks() {
        long[][] kinds = {{0x11, 0x01}, {0x12, 0x01}, {0x55, 0x17}, {0x12, 0x0F}};
        for (long[] kind : kinds) {
            Dwarf d = new Dwarf().abbrev(1, 0x11, 1).abbrev(2, 0x2E, 1, 0x03, 0x08, 0x11, 0x01, 0x12, 0x0F);
            d.abbrev(3, 0x0B, 1, kind).abbrev(4, 0x1D, 0, 0x11, 0x01, 0x12, 0x0F).endAbbrevs();
            Bytes e = new Bytes().u1(1).u1(2).text("f").u8(0).uleb(9).u1(3);
            e = kind[1] == 0x01 ? e.u8(5) : kind[1] == 0x0F ? e.uleb(5) : e.u4(0);
            d.unit(e.u1(4).u8(0).uleb(9).u1(0).u1(0).u1(0));
            d.rnglists.u1(0);
            FrameFinder x = Check.opened("half", d.build());
            Check.same("block with " + kind[0], x.find(3), kind[0] == 0x55 ? 1 : 2);
        }
    }

    /** Functions in entries of other tags count, but nothing is put in by way of those. */
    private static void passed() {
        Bytes e = new Bytes().u1(Samples.SPACE);
        Samples.function(e, "f", 0x100, 0x100);
        e.u1(Samples.SPACE);
        Samples.putIn(e, "hidden", 0x100, 0x100, 0, 1).u1(0).u1(0);
        Samples.block(e, 0x100, 0x100).u1(Samples.SPACE);
        Samples.putIn(e, "hidden", 0x100, 0x100, 0, 2).u1(0).u1(0).u1(0);
        Samples.function(e, "inside", 0x100, 0x100);
        Samples.putIn(e, "hidden", 0x100, 0x100, 0, 2).u1(0).u1(0);
        Samples.putIn(e, "p", 0x150, 0x10, 0, 3).u1(0).u1(0).u1(0);
        Samples.putIn(e, "lone", 0x300, 0x10, 0, 4).u1(0);
        FrameFinder x = opened("passed", e);
        due("by others", x, 0x100, "f@:0");
        due("directly", x, 0x150, "p@:0 f@:3");
        due("without a function", x, 0x300, "");
        due("a block or unit is no function", x, 0x200, "");
    }

    /** As many frames as there can be open entries. */
    private static void deep() {
        Bytes e = new Bytes();
        Samples.function(e, "f0", 0x100, 0x100);
        StringBuilder due = new StringBuilder("f0@:1");
        for (int i = 1; i < 15; i++) {
            Samples.putIn(e, "f" + i, 0x100, 0x100 - i, 0, i);
            due.insert(0, "f" + i + "@:" + (i == 14 ? 99 : i + 1) + " ");
        }
        Dwarf d = new Dwarf().abbrev(1, 0x11, 1).abbrev(2, 0x2E, 1, 0x03, 0x08, 0x11, 0x01, 0x12, 0x0F);
        d.abbrev(3, 0x1D, 1, 0x03, 0x08, 0x11, 0x01, 0x12, 0x0F, 0x58, 0x0F, 0x59, 0x0F);
        d.abbrev(4, 0x1D, 0, 0x11, 0x01, 0x12, 0x0F, 0x59, 0x0B).endAbbrevs();
        e.u1(4).u8(0x100).uleb(0x100).u1(99);
        for (int i = 0; i < 15; i++) {
            e.u1(0);
        }
        FrameFinder x = Check.opened("deep", d.unit(new Bytes().u1(1).all(e).u1(0)).build());
        Check.same("16 frames", x.find(0x100), 16);
        due("16 frames", x, 0x100, "@:0 " + due);
        // Of a chain that breaks off early nothing of the longer one is left.
        Check.same("less", x.find(0x1F2), 14);
        Check.same("behind them", x.line(14), -1);
    }

    private static void withoutSign() {
        Bytes e = new Bytes();
        Samples.function(e, "wide", 0x1000, 0x8000000000000000L).u1(0);
        Samples.function(e, "high", 0xF000000000000000L, 0x100).u1(0);
        Samples.function(e, "wraps", -0x10, 0x20).u1(0);
        FrameFinder x = opened("without sign", e);
        due("low", x, 0x1000, "wide@:0");
        due("beyond the highest long", x, 0x8000000000000FFFL, "wide@:0");
        due("its end", x, 0x8000000000001000L, "");
        due("below", x, 0xFFF, "");
        due("high", x, 0xF0000000000000FFL, "high@:0");
        due("an end that wrapped", x, -1, "");
        due("an end that wrapped, behind", x, 0, "");
    }

    /** What is put in counts through blocks alone, not through an entry of any other tag. */
    private static void between() {
        for (int tag = 0; tag < 0x60; tag++) {
            if (tag == 0x11) {
                continue;
            }
            Dwarf d = new Dwarf().abbrev(1, 0x11, 1).abbrev(2, 0x2E, 1, 0x11, 0x01, 0x12, 0x19).abbrev(3, tag, 1);
            d.abbrev(4, 0x1D, 0, 0x11, 0x01, 0x12, 0x19, 0x59, 0x19).abbrev(5, 0x0B, 1).endAbbrevs();
            d.unit(new Bytes().u1(1).u1(2).u8(5).u1(3).u1(4).u8(5).raw(0, 0, 0));
            d.unit(new Bytes().u1(1).u1(2).u8(6).u1(5).u1(3).u1(4).u8(6).raw(0, 0, 0, 0));
            d.unit(new Bytes().u1(1).u1(2).u8(7).u1(3).u1(5).u1(4).u8(7).raw(0, 0, 0, 0));
            for (long address = 5; address <= 7; address++) {
                Check.frames("by tag " + tag, d.build(), address, tag == 0x0B ? "@:0 @:1" : "@:0");
            }
        }
    }

    /** The first in the order of entries counts, directly or by blocks, and no way leads back from it. */
    private static void order() {
        Bytes e = new Bytes();
        Samples.function(e, "f", 0x100, 0x10).u1(Samples.BARE_BLOCK);
        Samples.putIn(e, "blocked", 0x100, 0x10, 0, 1).u1(0).u1(0);
        Samples.putIn(e, "direct", 0x100, 0x10, 0, 2).u1(0).u1(0);
        Samples.function(e, "g", 0x200, 0x10);
        Samples.putIn(e, "direct", 0x200, 0x10, 0, 3).u1(0).u1(Samples.BARE_BLOCK);
        Samples.putIn(e, "blocked", 0x200, 0x10, 0, 4);
        Samples.putIn(e, "deeper", 0x200, 0x10, 0, 5).raw(0, 0, 0, 0);
        Samples.function(e, "h", 0x300, 0x10);
        Samples.putIn(e, "elsewhere", 0x310, 0x10, 0, 6);
        Samples.putIn(e, "inside", 0x300, 0x20, 0, 7).raw(0, 0, 0);
        FrameFinder x = opened("order", e);
        due("a block first", x, 0x100, "blocked@:0 f@:1");
        due("a block behind", x, 0x200, "direct@:0 g@:3");
        due("in one that does not hold it", x, 0x300, "h@:0");
        due("in one whose function does not", x, 0x310, "");
    }

    /** Blocks, units and what is put in are no functions, though they hold the address. */
    private static void noOther() {
        Dwarf d = new Dwarf().abbrev(1, 0x11, 1, 0x11, 0x01, 0x12, 0x0B).abbrev(2, 0x0B, 0, 0x11, 0x01, 0x12, 0x0B);
        d.abbrev(3, 0x1D, 0, 0x11, 0x01, 0x12, 0x0B).abbrev(4, 0x2F, 0, 0x11, 0x01, 0x12, 0x0B).endAbbrevs();
        d.unit(new Bytes().u1(1).u8(5).u1(5).u1(2).u8(5).u1(5).u1(3).u8(5).u1(5).u1(4).u8(5).u1(5).u1(0));
        Check.frames("no function", d.build(), 5, "");
        Check.frames("a symbol then", d.symbol("s", 2, 5, 1).build(), 5, "s@:0");
    }

    private static void kindsOfSymbols() {
        for (int kind = 0; kind < 256; kind++) {
            Dwarf d = new Dwarf().symbol("no", kind ^ 1, 5, 1).symbol("s", kind, 5, 1);
            boolean other = (kind ^ 1) % 16 == 2;
            Check.frames("kind " + kind, d.build(), 5, kind % 16 == 2 ? "s@:0" : other ? "no@:0" : "");
        }
    }

    private static void edgesOfSymbols() {
        long[][] spans = {{5, 1}, {5, 0}, {0, 1}, {0, -1}, {1, -2}, {-1, 1}, {-1, 0}, {-2, 1}, {-2, 2}, {1L << 63, 1}, {5, -3}};
        for (long[] span : spans) {
            byte[] file = new Dwarf().symbol("s", 2, span[0], span[1]).build();
            long end = span[0] + span[1];
            for (long address : new long[] {0, 1, 2, 4, 5, 6, Long.MAX_VALUE, 1L << 63, 1L << 63 | 1, -3, -2, -1}) {
                boolean covers = Long.compareUnsigned(address, span[0]) >= 0 && Long.compareUnsigned(address, end) < 0;
                String what = span[1] + " bytes from " + span[0] + " on";
                Check.frames(what + " at " + address, file, address, covers ? "s@:0" : "");
            }
        }
    }

    /** A function without a name has no other, though a symbol covers the address. */
    private static void beforeSymbols() {
        Dwarf d = new Dwarf().abbrev(1, 0x11, 1).abbrev(2, 0x2E, 0, 0x11, 0x01, 0x12, 0x19).endAbbrevs();
        d.unit(new Bytes().u1(1).u1(2).u8(5).u1(0));
        Check.frames("no name", d.symbol("s", 2, 5, 2).build(), 5, "@:0");
        Check.frames("a symbol behind it", d.build(), 6, "s@:0");
    }

    /** Entries of a file that was read before lend no values to those of the next one. */
    private static void usedObject() {
        Dwarf rich = new Dwarf().abbrev(1, 0x11, 1, 0x11, 0x01, 0x12, 0x0B, 0x72, 0x17, 0x73, 0x17, 0x74, 0x17);
        rich.abbrev(2, 0x2E, 1, 0x03, 0x08, 0x11, 0x01, 0x12, 0x0B, 0x31, 0x13, 0x58, 0x0B, 0x59, 0x0B);
        rich.abbrev(3, 0x1D, 0, 0x03, 0x08, 0x11, 0x01, 0x12, 0x0B, 0x55, 0x17, 0x31, 0x13, 0x58, 0x0B, 0x59, 0x0B).endAbbrevs();
        int function = 12 + 22;
        Bytes e = new Bytes().u1(1).u8(5).u1(9).u4(4).u4(4).u4(4);
        e.u1(2).text("f").u8(5).u1(9).u4(function).u1(1).u1(7);
        e.u1(3).text("p").u8(5).u1(9).u4(0).u4(function).u1(1).u1(7);
        rich.unit(e.u1(0).u1(0));
        rich.rnglists.u1(6).u8(5).u8(9).u1(0);
        Dwarf poor = new Dwarf().abbrev(1, 0x11, 1).abbrev(2, 0x2E, 1, 0x11, 0x1B, 0x12, 0x0B).abbrev(3, 0x1D, 0, 0x11, 0x1B, 0x12, 0x0B);
        poor.endAbbrevs().unit(new Bytes().u1(1).u1(2).uleb(0).u1(20).u1(3).uleb(0).u1(10).u1(0).u1(0));
        poor.addr.u8(100);
        FrameFinder x = Check.opened("rich", rich.build());
        due("rich", x, 5, "p@:0 f@:7");
        x.clear();
        Check.load(x, poor.build());
        Check.same("open() of the poor one", Check.tryOpen(x), 3);
        due("poor", x, 105, "@:0 @:0");
        due("poor", x, 110, "@:0");
        due("poor", x, 5, "");
        Check.same("its ranges", x.count(3), 2);
    }
}
