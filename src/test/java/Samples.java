/** Files that several tests use. */
final class Samples {
    private Samples() { }

    /** Numbers of the abbreviations below. */
    static final int UNIT = 1;
    static final int FUNCTION = 2;
    static final int PUT_IN = 3;
    static final int BLOCK = 4;
    static final int BARE_BLOCK = 5;
    static final int SPACE = 6;
    static final int NAMED = 7;
    static final int BARE_UNIT = 8;

    /** Abbreviations whose entries all have children. */
    static Dwarf tables() {
        Dwarf d = new Dwarf();
        d.abbrev(UNIT, 0x11, 1, 0x10, 0x17);
        d.abbrev(FUNCTION, 0x2E, 1, 0x03, 0x08, 0x11, 0x01, 0x12, 0x0F);
        d.abbrev(PUT_IN, 0x1D, 1, 0x03, 0x08, 0x11, 0x01, 0x12, 0x0F, 0x58, 0x0F, 0x59, 0x0F);
        d.abbrev(BLOCK, 0x0B, 1, 0x11, 0x01, 0x12, 0x0F);
        d.abbrev(BARE_BLOCK, 0x0B, 1);
        d.abbrev(SPACE, 0x39, 1);
        d.abbrev(NAMED, 0x2E, 1, 0x03, 0x08);
        d.abbrev(BARE_UNIT, 0x11, 1);
        return d.endAbbrevs();
    }

    static Bytes function(Bytes to, String name, long low, long size) {
        return to.u1(FUNCTION).text(name).u8(low).uleb(size);
    }

    static Bytes putIn(Bytes to, String name, long low, long size, int file, int line) {
        return to.u1(PUT_IN).text(name).u8(low).uleb(size).uleb(file).uleb(line);
    }

    static Bytes block(Bytes to, long low, long size) {
        return to.u1(BLOCK).u8(low).uleb(size);
    }

    /** 6 entries, 5 ranges, 4 rows, 2 symbols in 1 unit and 7 sections. */
    static Dwarf plain() {
        Dwarf d = tables();
        Bytes e = new Bytes().u1(UNIT).u4(0);
        function(e, "main", 0x1000, 0x100);
        block(e, 0x1010, 0x80);
        putIn(e, "inner", 0x1020, 0x20, 1, 77).u1(0).u1(0);
        putIn(e, "other", 0x1080, 0x20, 0, 88).u1(0).u1(0);
        function(e, "last", 0x2000, 0x10).u1(0).u1(0);
        d.unit(e);
        d.line.all(new LineTable().row(0x1000, 5).row(0x1020, 6).row(0x1040, 7).end(0x1100).build());
        return d.symbol("sym", 0x12, 0x3000, 0x10).symbol("data", 0x11, 0x4000, 0x10);
    }

    /** The file of all(), made once. */
    static final byte[] ALL = all().build();

    /** 3 entries that need something of all ten sections. */
    static Dwarf all() {
        Dwarf d = new Dwarf();
        d.abbrev(1, 0x11, 1, 0x03, 0x25, 0x10, 0x17, 0x72, 0x17, 0x73, 0x17, 0x74, 0x17, 0x11, 0x1B);
        d.abbrev(2, 0x2E, 1, 0x03, 0x0E, 0x55, 0x23);
        d.abbrev(3, 0x1D, 0, 0x03, 0x1F, 0x11, 0x1B, 0x12, 0x0B, 0x58, 0x0B, 0x59, 0x0B).endAbbrevs();
        Bytes e = new Bytes().u1(1).u1(0).u4(0).u4(4).u4(8).u4(4).uleb(0);
        e.u1(2).u4(5).uleb(0).u1(3).u4(0).uleb(1).u1(0x10).u1(0).u1(5).u1(0).u1(0);
        d.unit(e);
        d.str.text("unit").text("fun");
        d.strOffsets.u4(99).u4(0);
        d.lineStr.text("in").text("x.c");
        d.addr.u8(99).u8(0x1000).u8(0x1010);
        d.rnglists.u4(99).u4(4).u1(4).uleb(0).uleb(0x40).u1(0);
        LineTable t = new LineTable();
        t.files = new Bytes().u1(1).uleb(1).uleb(0x1F).uleb(2).u4(3).u4(3);
        d.line.all(t.row(0x1000, 6).row(0x1010, 7).end(0x1040).build());
        return d.symbol("s", 2, 0x3000, 0x10);
    }

    /** A unit's own entry alone, with one attribute more than none. */
    static Dwarf single(long attribute, long form, Bytes value) {
        Dwarf d = new Dwarf();
        d.abbrev(1, 0x11, 0, attribute, form).endAbbrevs();
        return d.unit(new Bytes().u1(1).all(value));
    }
}
