/** Promise 7 by the ranges of entries. */
public final class RangesTest {
    public static void main(String[] args) {
        kinds();
        bases();
        ends();
        indexed();
        insteadOfLow();
        Check.end();
    }

    private static void holds(String what, FrameFinder x, long from, long to) {
        Check.same(what + ": before", x.find(from - 1), 0);
        Check.same(what + ": first", x.find(from), 1);
        Check.same(what + ": last", x.find(to - 1), 1);
        Check.same(what + ": behind", x.find(to), 0);
    }

    /** A unit from 0x10000 on and a function of a list; addresses from base 8 on: 0x100, 0x200, 0x300. */
    private static FrameFinder opened(String what, Bytes list) {
        Dwarf d = new Dwarf().abbrev(1, 0x11, 1, 0x11, 0x01, 0x73, 0x17).abbrev(2, 0x2E, 0, 0x55, 0x17).endAbbrevs();
        d.unit(new Bytes().u1(1).u8(0x10000).u4(8).u1(2).u4(3).u1(0));
        d.rnglists.raw(1, 2, 3).all(list);
        d.addr.u8(0x999).u8(0x100).u8(0x200).u8(0x300);
        return Check.opened(what, d.build());
    }

    private static void kinds() {
        holds("2", opened("2", new Bytes().u1(2).uleb(0).uleb(1).u1(0)), 0x100, 0x200);
        holds("3", opened("3", new Bytes().u1(3).uleb(1).uleb(0x333).u1(0)), 0x200, 0x533);
        holds("4", opened("4", new Bytes().u1(4).uleb(0x20).uleb(0x300).u1(0)), 0x10020, 0x10300);
        holds("6", opened("6", new Bytes().u1(6).u8(0x777).u8(0x888).u1(0)), 0x777, 0x888);
        holds("7", opened("7", new Bytes().u1(7).u8(0x777).uleb(0x1000).u1(0)), 0x777, 0x1777);
        FrameFinder x = opened("some", new Bytes().u1(6).u8(5).u8(6).u1(6).u8(9).u8(8).u1(6).u8(7).u8(9).u1(0));
        holds("first", x, 5, 6);
        holds("third", x, 7, 9);
        Check.same("count", x.count(3), 3);
        Check.same("empty", opened("empty", new Bytes().u1(6).u8(5).u8(5).u1(0)).find(5), 0);
        FrameFinder wide = opened("wide", new Bytes().u1(6).u8(1).u8(-1).u1(0));
        Check.same("without sign", wide.find(Long.MIN_VALUE), 1);
        Check.same("its end", wide.find(-1), 0);
        FrameFinder wraps = opened("wraps", new Bytes().u1(7).u8(-5).uleb(10).u1(0));
        Check.same("a sum that wraps", wraps.find(-5) + wraps.find(0), 0);
    }

    private static void bases() {
        holds("base by 1", opened("1", new Bytes().u1(1).uleb(2).u1(4).uleb(1).uleb(5).u1(0)), 0x301, 0x305);
        holds("base by 5", opened("5", new Bytes().u1(5).u8(0x7000).u1(4).uleb(1).uleb(5).u1(0)), 0x7001, 0x7005);
        FrameFinder x = opened("both", new Bytes().u1(4).uleb(0).uleb(5).u1(5).u8(0x7000).u1(4).uleb(1).uleb(5).u1(0));
        holds("the unit's", x, 0x10000, 0x10005);
        holds("the new one", x, 0x7001, 0x7005);
        holds("wraps", opened("wraps", new Bytes().u1(4).uleb(-0x8000).uleb(-0x4000).u1(0)), 0x8000, 0xC000);
        Dwarf d = new Dwarf().abbrev(1, 0x11, 1).abbrev(2, 0x2E, 0, 0x55, 0x17, 0x11, 0x01).endAbbrevs();
        d.unit(new Bytes().u1(1).u1(2).u4(0).u8(0x50).u1(0));
        d.rnglists.u1(4).uleb(0x20).uleb(0x30).u1(0);
        holds("no low of the unit", Check.opened("no low", d.build()), 0x20, 0x30);
        // A base of one list is none of the next one's.
        Dwarf two = new Dwarf().abbrev(1, 0x11, 1, 0x11, 0x01).abbrev(2, 0x2E, 0, 0x55, 0x17).endAbbrevs();
        two.unit(new Bytes().u1(1).u8(0x100).u1(2).u4(0).u1(2).u4(9).u1(0));
        two.rnglists.u1(5).u8(0x5000).u1(4).uleb(1).uleb(2).u1(0);
        FrameFinder y = Check.opened("two", two.build());
        holds("its base", y, 0x5001, 0x5002);
        holds("the unit's again", y, 0x101, 0x102);
    }

    /** Low with high as an address and as each constant. */
    private static void ends() {
        end("address", 0x01, new Bytes().u8(0x150), 0x150);
        end("index", 0x1B, new Bytes().uleb(1), 0x222);
        end("u1", 0x0B, new Bytes().u1(0xFF), 0x1FF);
        end("u2", 0x05, new Bytes().u2(0xFFFE), 0x100FE);
        end("u4", 0x06, new Bytes().u4(0xFFFFFFFEL), 0x1000000FEL);
        end("u8", 0x07, new Bytes().u8(0x7777777777777777L), 0x7777777777777877L);
        end("ULEB", 0x0F, new Bytes().uleb(0x4001), 0x4101);
        end("SLEB", 0x0D, new Bytes().sleb(0x4001), 0x4101);
        end("SLEB of ten bytes", 0x0D, new Bytes().raw(0x81, 0x80, 0x80, 0x80, 0x80, 0x80, 0x80, 0x80, 0x80, 0x7E), 0x101);
        end("ULEB of bit 63", 0x0F, new Bytes().uleb(1L << 63 | 1), 1L << 63 | 0x101);
        end("SLEB of bit 63", 0x0D, new Bytes().raw(0x81, 0x80, 0x80, 0x80, 0x80, 0x80, 0x80, 0x80, 0x80, 0x01), 1L << 63 | 0x101);
        end("SLEB of nine bytes", 0x0D, new Bytes().raw(0x80, 0x80, 0x80, 0x80, 0x80, 0x80, 0x80, 0x80, 0x40), 3L << 62 | 0x100);
        end("one", 0x19, new Bytes(), 0x101);
        end("constant", 0x21, new Bytes(), 0x1234 + 0x100);
        // Without sign, what is below low lies behind its wrap.
        Dwarf d = lowHigh(0x0D, new Bytes().sleb(-1));
        Check.same("a negative SLEB", Check.opened("negative", d.build()).find(0x100), 0);
    }

    private static Dwarf lowHigh(long form, Bytes high) {
        long[] pairs = {0x11, 0x1B, 0x12, form, 0x1234};
        Dwarf d = new Dwarf().abbrev(1, 0x11, 1).abbrev(2, 0x2E, 0, form == 0x21 ? pairs : java.util.Arrays.copyOf(pairs, 4));
        d.endAbbrevs().unit(new Bytes().u1(1).u1(2).uleb(0).all(high).u1(0));
        d.addr.u8(0x100).u8(0x222);
        return d;
    }

    private static void end(String what, long form, Bytes high, long due) {
        holds("high by " + what, Check.opened(what, lowHigh(form, high).build()), 0x100, due);
        // The order of the two attributes is free.
        if (form != 0x21) {
            Dwarf d = new Dwarf().abbrev(1, 0x11, 1).abbrev(2, 0x2E, 0, 0x12, form, 0x11, 0x1B).endAbbrevs();
            d.unit(new Bytes().u1(1).u1(2).all(high).uleb(0).u1(0));
            d.addr.u8(0x100).u8(0x222);
            holds("low behind high by " + what, Check.opened(what, d.build()), 0x100, due);
        }
    }

    private static void indexed() {
        Dwarf d = new Dwarf().abbrev(1, 0x11, 1, 0x74, 0x17).abbrev(2, 0x2E, 0, 0x55, 0x23).endAbbrevs();
        d.unit(new Bytes().u1(1).u4(12).u1(2).uleb(1).u1(0)).unit(new Bytes().u1(1).u4(4).u1(2).uleb(0).u1(0));
        // From base 12 on the second place is 8; from base 4 on the first is 23.
        d.rnglists.u4(0).u4(23).u4(0).u4(0).u4(8).u1(4).uleb(5).uleb(6).u1(0).raw(0, 0, 0).u1(4).uleb(8).uleb(9).u1(0);
        FrameFinder x = Check.opened("indexed", d.build());
        holds("by base and place", x, 5, 6);
        holds("of another unit", x, 8, 9);
    }

    private static void insteadOfLow() {
        Dwarf d = new Dwarf().abbrev(1, 0x11, 1, 0x11, 0x01).abbrev(2, 0x2E, 0, 0x11, 0x01, 0x12, 0x0B, 0x55, 0x17).endAbbrevs();
        d.unit(new Bytes().u1(1).u8(0x5000).u1(2).u8(0x100).u1(0x10).u4(0).u1(0));
        d.rnglists.u1(4).uleb(1).uleb(2).u1(0);
        FrameFinder x = Check.opened("both", d.build());
        Check.same("low and high don't count then", x.find(0x100), 0);
        holds("the list does, by the unit's low", x, 0x5001, 0x5002);
    }
}
