/** Terms: the numbers and texts of the file, at their ends and beyond. */
public final class NumbersTest {
    public static void main(String[] args) {
        ulebs();
        slebs();
        lostBits();
        inAbbreviations();
        inEntries();
        inLists();
        inLines();
        cut();
        widths();
        sums();
        places();
        texts();
        Check.end();
    }

    /** A value in just n bytes, the last of which may be more than is needed. */
    private static Bytes longer(int n, long value) {
        Bytes b = new Bytes();
        for (int i = 0; i < n; i++) {
            long bits = 7 * i < 64 ? value >>> (7 * i) & 0x7F : 0;
            b.u1(i + 1 < n ? bits | 0x80 : bits);
        }
        return b;
    }

    /** A function from 0 to a constant without low's help. */
    private static Dwarf upTo(int form, Bytes high) {
        Dwarf d = new Dwarf().abbrev(1, 0x11, 1).abbrev(2, 0x2E, 0, 0x11, 0x01, 0x12, form).endAbbrevs();
        return d.unit(new Bytes().u1(1).u1(2).u8(0).all(high).u1(0));
    }

    private static void holds(String what, Dwarf d, long end) {
        byte[] file = d.build();
        Check.frames(what + ": the last", file, end - 1, "@:0");
        Check.frames(what + ": behind it", file, end, "");
    }

    private static void ulebs() {
        for (int n = 1; n <= 10; n++) {
            holds("one bit in " + n, upTo(0x0F, longer(n, 1L << (7 * (n - 1)))), 1L << (7 * (n - 1)));
            holds("5 in " + n, upTo(0x0F, longer(n, 5)), 5);
            // Without sign, so bit 6 of the last byte is a bit as any other.
            long high = n < 10 ? 0x7FL << (7 * (n - 1)) : 1L << 63;
            holds("the highest bits in " + n, upTo(0x0F, longer(n, high)), high);
        }
        Check.fault("ULEB of eleven", 2, upTo(0x0F, longer(11, 5)).build());
        Check.fault("ULEB of twelve", 2, upTo(0x0F, longer(12, 5)).build());
    }

    private static void slebs() {
        for (int n = 1; n <= 9; n++) {
            // The bytes of the lowest value that they have room for, and of the highest.
            long lowest = -1L << (7 * n - 1);
            holds("the lowest in " + n, upTo(0x0D, longer(n, lowest)), lowest);
            holds("the highest in " + n, upTo(0x0D, longer(n, ~lowest)), ~lowest);
            holds("-1 in " + n, upTo(0x0D, longer(n, -1)), -1);
        }
        holds("SLEB in ten", upTo(0x0D, longer(10, Long.MIN_VALUE)), Long.MIN_VALUE);
        holds("1 in ten", upTo(0x0D, longer(10, 1)), 1);
        Check.fault("SLEB of eleven", 2, upTo(0x0D, longer(11, 5)).build());
        line("-64", new Bytes().raw(0x40), -64);
        line("63", new Bytes().raw(0x3F), 63);
        line("64", new Bytes().raw(0xC0, 0), 64);
        line("-65", new Bytes().raw(0xBF, 0x7F), -65);
        line("64 without its second byte's sign", new Bytes().raw(0xC0, 0x40), -8128);
    }

    private static void line(String what, Bytes value, int due) {
        Dwarf d = new Dwarf().abbrev(1, 0x11, 1).abbrev(2, 0x2E, 1, 0x11, 0x01, 0x12, 0x0B);
        d.abbrev(3, 0x1D, 0, 0x11, 0x01, 0x12, 0x0B, 0x59, 0x0D).endAbbrevs();
        d.unit(new Bytes().u1(1).u1(2).u8(1).u1(1).u1(3).u8(1).u1(1).all(value).u1(0).u1(0));
        Check.frames(what, d.build(), 1, "@:0 @:" + due);
    }

    /** Of the tenth byte only the lowest bit counts. */
    private static void lostBits() {
        for (int last = 0; last < 0x80; last++) {
            Bytes ten = new Bytes().raw(0x85, 0x80, 0x80, 0x80, 0x80, 0x80, 0x80, 0x80, 0x80, last);
            long due = 5 | (long) (last & 1) << 63;
            for (int form : new int[] {0x0F, 0x0D}) {
                FrameFinder x = Check.opened("tenth byte " + last, upTo(form, ten).build());
                Check.same("form " + form + ", tenth byte " + last + ": the last", Check.tryFind(x, due - 1), 1);
                Check.same("form " + form + ", tenth byte " + last + ": behind", Check.tryFind(x, due), 0);
            }
        }
    }

    private static final int[] LENGTHS = {1, 2, 9, 10, 11};

    private static int due(int n, int fault) {
        return n <= 10 ? 0 : fault;
    }

    private static void inAbbreviations() {
        for (int n : LENGTHS) {
            for (int which = 0; which < 8; which++) {
                Bytes b = new Bytes();
                int[] values = {1, 0x11, 5, 0x21, 7, 0, 0, 0};
                for (int i = 0; i < values.length; i++) {
                    b.all(longer(i == which ? n : 1, values[i]));
                    if (i == 1) {
                        b.u1(0);
                    }
                }
                Dwarf d = new Dwarf();
                d.abbrev.all(b);
                Check.fault("abbreviation " + which + " in " + n, due(n, 2), d.unit(new Bytes().u1(1)).build());
            }
        }
    }

    private static void inEntries() {
        for (int n : LENGTHS) {
            Dwarf d = new Dwarf().abbrev(1, 0x11, 1).abbrev(2, 0x34, 0).endAbbrevs();
            Check.fault("entry in " + n, due(n, 2), d.unit(new Bytes().u1(1).all(longer(n, 2)).u1(0)).build());
            Dwarf e = new Dwarf().abbrev(1, 0x11, 1).abbrev(2, 0x34, 0).endAbbrevs();
            Check.fault("end in " + n, due(n, 2), e.unit(new Bytes().u1(1).u1(2).all(longer(n, 0))).build());
            for (int form : new int[] {0x0D, 0x0F, 0x1B, 0x23, 0x18}) {
                String what = "form " + form + " in " + n;
                Check.fault(what, due(n, 2), Samples.single(0x7F, form, longer(n, 0)).build());
            }
        }
    }

    /** The ULEBs of each kind of piece, one of them longer. */
    private static void inLists() {
        int[][] kinds = {{1, 0, 1}, {2, 0, 2}, {3, 0, 2}, {4, 0, 2}, {7, 8, 1}};
        for (int n : LENGTHS) {
            for (int[] kind : kinds) {
                for (int which = 0; which < kind[2]; which++) {
                    Bytes list = new Bytes().u1(kind[0]).raw(new int[kind[1]]);
                    for (int i = 0; i < kind[2]; i++) {
                        list.all(longer(i == which ? n : 1, 0));
                    }
                    Dwarf d = Samples.single(0x55, 0x17, new Bytes().u4(0));
                    d.rnglists.all(list.u1(0));
                    d.addr.u8(5);
                    Check.fault("kind " + kind[0] + ", number " + which + " in " + n, due(n, 3), d.build());
                }
            }
        }
    }

    private static void lineTable(String what, int fault, LineTable t) {
        Dwarf d = Samples.single(0x10, 0x17, new Bytes().u4(0));
        d.line.all(t.build());
        Check.fault(what, fault, d.build());
    }

    private static void inLines() {
        for (int n : LENGTHS) {
            for (int which = 0; which < 4; which++) {
                Bytes names = new Bytes().u1(1).all(longer(which == 0 ? n : 1, 2)).all(longer(which == 1 ? n : 1, 0x0F));
                names.all(longer(which == 2 ? n : 1, 1)).all(longer(which == 3 ? n : 1, 5));
                LineTable folders = new LineTable();
                folders.folders = names;
                lineTable("folders, number " + which + " in " + n, due(n, 4), folders);
                LineTable files = new LineTable();
                files.files = names;
                lineTable("files, number " + which + " in " + n, due(n, 4), files);
            }
            for (int code : new int[] {2, 3, 4, 5, 12, 13}) {
                LineTable t = new LineTable();
                t.first = 14;
                t.operands.u1(1);
                t.program.u1(code).all(longer(n, 1)).u1(1);
                lineTable("code " + code + " in " + n, due(n, 4), t);
            }
            LineTable t = new LineTable();
            t.program.u1(0).all(longer(n, 1)).u1(1);
            lineTable("length in " + n, due(n, 4), t);
        }
    }

    /** A ULEB whose last byte is not there. */
    private static void cut() {
        for (int n = 1; n <= 10; n++) {
            int[] open = new int[n];
            java.util.Arrays.fill(open, 0x80);
            Check.fault("cut in an entry behind " + n, 2, Samples.single(0x7F, 0x0F, new Bytes().raw(open)).build());
            Dwarf list = Samples.single(0x55, 0x17, new Bytes().u4(0));
            list.rnglists.u1(4).u1(0).raw(open);
            Check.fault("cut in a list behind " + n, 3, list.build());
            LineTable t = new LineTable();
            t.program.u1(2).raw(open);
            lineTable("cut in a program behind " + n, 4, t);
            Dwarf table = new Dwarf().unit(new Bytes().u1(1));
            table.abbrev.raw(1, 0x11, 0, 0, 0).raw(open);
            Check.fault("cut in abbreviations behind " + n, 2, table.build());
        }
    }

    /** Numbers of one to eight bytes, the lowest first and without sign. */
    private static void widths() {
        holds("u1", upTo(0x0B, new Bytes().raw(0x81)), 0x81);
        holds("u2", upTo(0x05, new Bytes().raw(0x81, 0x92)), 0x9281);
        holds("u4", upTo(0x06, new Bytes().raw(0x81, 0x92, 0xA3, 0xB4)), 0xB4A39281L);
        holds("u8", upTo(0x07, new Bytes().raw(0x81, 0x92, 0xA3, 0xB4, 0xC5, 0xD6, 0xE7, 0xF8)), 0xF8E7D6C5B4A39281L);
        holds("u1, all bits", upTo(0x0B, new Bytes().u1(-1)), 0xFF);
        holds("u2, all bits", upTo(0x05, new Bytes().u2(-1)), 0xFFFF);
        holds("u4, all bits", upTo(0x06, new Bytes().u4(-1)), 0xFFFFFFFFL);
        holds("u8, all bits", upTo(0x07, new Bytes().u8(-1)), -1);
        holds("an address", upTo(0x01, new Bytes().u8(0xF8E7D6C5B4A39281L)), 0xF8E7D6C5B4A39281L);
    }

    private static void range(String what, Bytes list, long from, long to) {
        Dwarf d = new Dwarf().abbrev(1, 0x11, 1, 0x11, 0x01).abbrev(2, 0x2E, 0, 0x55, 0x17).endAbbrevs();
        d.unit(new Bytes().u1(1).u8(-8).u1(2).u4(0).u1(0));
        d.rnglists.all(list).u1(0);
        d.addr.u8(-8).u8(8);
        byte[] file = d.build();
        Check.frames(what + ": before", file, from - 1, "");
        String due = Long.compareUnsigned(from, to) < 0 ? "@:0" : "";
        Check.frames(what + ": first", file, from, due);
        Check.frames(what + ": last", file, to - 1, due);
        Check.frames(what + ": behind", file, to, "");
    }

    /** Sums of addresses wrap: what wraps in both lies low again, what wraps in its end alone holds nothing. */
    private static void sums() {
        range("base and both", new Bytes().u1(4).uleb(16).uleb(24), 8, 16);
        range("base and the other", new Bytes().u1(4).uleb(0).uleb(16), -8, 8);
        range("such one and so many bytes", new Bytes().u1(3).uleb(0).uleb(16), -8, 8);
        range("one and so many bytes", new Bytes().u1(7).u8(-8).uleb(16), -8, 8);
        range("so many bytes that are below 0", new Bytes().u1(7).u8(16).uleb(-8), 16, 8);
        range("from and to", new Bytes().u1(6).u8(-8).u8(8), -8, 8);
        range("from one such to the other", new Bytes().u1(2).uleb(0).uleb(1), -8, 8);
        range("up to the last address", new Bytes().u1(7).u8(16).uleb(-17), 16, -1);
        Dwarf low = new Dwarf().abbrev(1, 0x11, 1).abbrev(2, 0x2E, 0, 0x11, 0x01, 0x12, 0x0B).endAbbrevs();
        low.unit(new Bytes().u1(1).u1(2).u8(-8).u1(16).u1(0));
        for (long address : new long[] {-9, -8, -1, 0, 7, 8}) {
            Check.frames("low and high that wraps", low.build(), address, "");
        }
    }

    /** Places don't wrap, neither at 32 bits nor at 64. */
    private static void places() {
        for (int index = 0; index <= 2; index++) {
            Dwarf text = new Dwarf().abbrev(1, 0x11, 0, 0x72, 0x17, 0x03, 0x25).endAbbrevs();
            text.unit(new Bytes().u1(1).u4(-4).u1(index));
            text.str.u1(0);
            text.strOffsets.u8(0);
            Check.fault("base 0x72 at its highest, index " + index, 3, text.build());
            Dwarf address = new Dwarf().abbrev(1, 0x11, 0, 0x73, 0x17, 0x11, 0x1B).endAbbrevs();
            address.unit(new Bytes().u1(1).u4(-8).uleb(index));
            address.addr.u8(0).u8(0);
            Check.fault("base 0x73 at its highest, index " + index, 3, address.build());
            Dwarf list = new Dwarf().abbrev(1, 0x11, 0, 0x74, 0x17, 0x55, 0x23).endAbbrevs();
            list.unit(new Bytes().u1(1).u4(-4).uleb(index));
            list.rnglists.u8(0);
            Check.fault("base 0x74 at its highest, index " + index, 3, list.build());
        }
        for (long index : new long[] {1L << 29, 1L << 30, 1L << 32, 1L << 61, 1L << 62, 1L << 63, -1, -2}) {
            Dwarf address = new Dwarf().abbrev(1, 0x11, 0, 0x73, 0x17, 0x11, 0x1B).endAbbrevs();
            address.unit(new Bytes().u1(1).u4(16).uleb(index));
            address.addr.u8(0).u8(0).u8(0);
            Check.fault("address " + index, 3, address.build());
            Dwarf list = new Dwarf().abbrev(1, 0x11, 0, 0x74, 0x17, 0x55, 0x23).endAbbrevs();
            list.unit(new Bytes().u1(1).u4(8).uleb(index));
            list.rnglists.u8(0).u8(0);
            Check.fault("list " + index, 3, list.build());
        }
        Dwarf sum = new Dwarf().abbrev(1, 0x11, 0, 0x74, 0x17, 0x55, 0x23).endAbbrevs();
        sum.unit(new Bytes().u1(1).u4(4).uleb(0));
        sum.rnglists.u4(0).u4(-4);
        Check.fault("base and place of a list", 3, sum.build());
    }

    /** A text may end with the last byte of its section, but not behind it. */
    private static void texts() {
        for (int form : new int[] {0x0E, 0x1F, 0x25}) {
            Dwarf d = new Dwarf().abbrev(1, 0x11, 1).abbrev(2, 0x2E, 0, 0x11, 0x01, 0x12, 0x0B, 0x03, form).endAbbrevs();
            Bytes e = new Bytes().u1(1).u1(2).u8(1).u1(1);
            d.unit((form == 0x25 ? e.u1(0) : e.u4(0)).u1(0));
            d.strOffsets.u4(0);
            Bytes section = form == 0x1F ? d.lineStr : d.str;
            section.raw('e', 'n', 'd');
            Check.fault("text by " + form + " without its end", 3, d.build());
            section.u1(0);
            Check.frames("text by " + form, d.build(), 1, "end@:0");
        }
    }
}
