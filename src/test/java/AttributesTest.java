/** FAULT 3: which attributes of which entries are looked at, of each the first, and what the bases are. */
public final class AttributesTest {
    private static final String ALL_TAGS = " 17 46 29 11 ";
    private static final String OF_ALL = " 3 17 18 85 49 88 89 ";
    private static final String OF_UNITS = " 16 114 115 116 ";

    public static void main(String[] args) {
        lookedAt();
        tags();
        origins();
        originsByNumbers();
        kinds();
        formOfTheFirst();
        firstRanges();
        firstOrigin();
        firstCall();
        firstLines();
        firstBases();
        noBases();
        basesOfUnits();
        highAlone();
        Check.end();
    }

    private static boolean isOf(String numbers, long number) {
        return numbers.contains(" " + number + " ");
    }

    /** A unit whose child, or which itself, has an attribute of a form that is right for none. */
    private static byte[] wrongForm(long tag, long attribute) {
        Dwarf d = new Dwarf();
        if (tag == 0x11) {
            return d.abbrev(1, 0x11, 0, attribute, 0x18).endAbbrevs().unit(new Bytes().u1(1).u1(0)).build();
        }
        d.abbrev(1, 0x11, 1).abbrev(2, tag, 0, attribute, 0x18).endAbbrevs();
        return d.unit(new Bytes().u1(1).u1(2).u1(0).u1(0)).build();
    }

    private static void lookedAt() {
        for (int tag : new int[] {0x11, 0x2E, 0x1D, 0x0B, 0x34}) {
            for (int attribute = 0; attribute < 0x100; attribute++) {
                boolean counts = tag != 0x34 && isOf(OF_ALL, attribute) || tag == 0x11 && isOf(OF_UNITS, attribute);
                Check.fault("attribute " + attribute + " of tag " + tag, counts ? 3 : 0, wrongForm(tag, attribute));
            }
            for (long high : new long[] {0x103, 1L << 32 | 3, 1L << 63 | 3, 1L << 32 | 0x10, 1L << 32 | 0x72}) {
                Check.fault("attribute " + high + " of tag " + tag, 0, wrongForm(tag, high));
            }
        }
    }

    private static void tags() {
        for (int tag = 0; tag < 0x100; tag++) {
            Check.fault("tag " + tag, isOf(ALL_TAGS, tag) ? 3 : 0, wrongForm(tag, 0x03));
        }
        for (long high : new long[] {0x12E, 0x11D, 1L << 32 | 0x2E, 1L << 63 | 0x0B}) {
            Check.fault("tag " + high, 0, wrongForm(high, 0x03));
        }
    }

    /** An origin is an entry of the tag 0x2E or 0x1D. */
    private static void origins() {
        for (int tag = 0; tag < 0x80; tag++) {
            Dwarf d = new Dwarf().abbrev(1, 0x11, 1).abbrev(2, 0x2E, 0, 0x31, 0x13).abbrev(3, tag, 0).endAbbrevs();
            byte[] file = d.unit(new Bytes().u1(1).u1(2).u4(18).u1(3).u1(0)).build();
            Check.fault("origin of tag " + tag, tag == 0x11 ? 2 : tag == 0x2E || tag == 0x1D ? 0 : 3, file);
        }
    }

    /** The right place in another form is no origin. */
    private static void originsByNumbers() {
        for (int form : new int[] {0x13, 0x06, 0x17, 0x0E, 0x1F, 0x0B, 0x05, 0x07, 0x01, 0x0D, 0x0F, 0x1B, 0x23, 0x25}) {
            int size = form == 0x07 || form == 0x01 ? 8 : form == 0x05 ? 2 : form == 0x0B || form > 0x1F || form == 0x1B ? 1 : 4;
            size = form == 0x0D || form == 0x0F ? 1 : size;
            Dwarf d = new Dwarf().abbrev(1, 0x11, 1).abbrev(2, 0x2E, 0).abbrev(3, 0x1D, 0, 0x31, form).endAbbrevs();
            d.unit(new Bytes().u1(1).u1(2).u1(3).number(size, 13).u1(0));
            Check.fault("origin by form " + form, form == 0x13 ? 0 : 3, d.build());
        }
    }

    /** Every kind of a piece of a list; behind it stand zeros, which all kinds take. */
    private static void kinds() {
        for (int kind = 0; kind < 256; kind++) {
            Dwarf d = Samples.single(0x55, 0x17, new Bytes().u4(0));
            d.rnglists.u1(kind).raw(new int[20]);
            d.addr.u8(1);
            Check.fault("kind " + kind, kind <= 7 ? 0 : 3, d.build());
        }
    }

    /** An attribute twice, in a right and in a wrong form. */
    private static void formOfTheFirst() {
        int[][] pairs = {
            {0x03, 0x08, 1, 0x0B, 1}, {0x11, 0x01, 8, 0x0B, 1}, {0x12, 0x0B, 1, 0x08, 1}, {0x55, 0x17, 4, 0x06, 4},
            {0x58, 0x0B, 1, 0x08, 1}, {0x59, 0x0B, 1, 0x01, 8}, {0x72, 0x17, 4, 0x06, 4}, {0x73, 0x17, 4, 0x06, 4},
            {0x74, 0x17, 4, 0x06, 4}, {0x10, 0x17, 4, 0x06, 4}};
        for (int[] p : pairs) {
            for (int right = 0; right <= 1; right++) {
                Dwarf d = new Dwarf();
                d.abbrev(1, 0x11, 0, p[0], p[right == 0 ? 1 : 3], 0x7F, 0x0B, p[0], p[right == 0 ? 3 : 1]).endAbbrevs();
                d.unit(new Bytes().u1(1).raw(new int[p[2] + p[4] + 1]));
                d.rnglists.u1(0);
                d.line.all(new LineTable().build());
                Check.fault("attribute " + p[0] + ", right is " + right, right == 0 ? 0 : 3, d.build());
            }
        }
        for (int right = 0; right <= 1; right++) {
            Dwarf d = new Dwarf().abbrev(1, 0x11, 1).abbrev(2, 0x2E, 0, 0x31, right == 0 ? 0x13 : 0x06, 0x31, right == 0 ? 0x06 : 0x13);
            d.endAbbrevs().unit(new Bytes().u1(1).u1(2).u4(13).u4(13).u1(0));
            Check.fault("origin, right is " + right, right == 0 ? 0 : 3, d.build());
        }
        // What the second leads to need not be there.
        Dwarf d = new Dwarf().abbrev(1, 0x11, 0, 0x03, 0x08, 0x03, 0x0E, 0x55, 0x17, 0x55, 0x17, 0x10, 0x17, 0x10, 0x17).endAbbrevs();
        d.unit(new Bytes().u1(1).text("n").u4(99).u4(0).u4(99).u4(0).u4(99));
        d.rnglists.u1(0);
        d.line.all(new LineTable().build());
        Check.fault("seconds that lead nowhere", 0, d.build());
    }

    private static void holds(String what, Dwarf d, long from, long to) {
        FrameFinder x = Check.opened(what, d.build());
        Check.same(what + ": before", x.find(from - 1), 0);
        Check.same(what + ": first", x.find(from), 1);
        Check.same(what + ": last", x.find(to - 1), 1);
        Check.same(what + ": behind", x.find(to), 0);
    }

    private static void firstRanges() {
        Dwarf lows = new Dwarf().abbrev(1, 0x11, 1).abbrev(2, 0x2E, 0, 0x11, 0x01, 0x11, 0x01, 0x12, 0x0B).endAbbrevs();
        holds("first low", lows.unit(new Bytes().u1(1).u1(2).u8(0x100).u8(0x200).u1(9).u1(0)), 0x100, 0x109);
        Dwarf highs = new Dwarf().abbrev(1, 0x11, 1).abbrev(2, 0x2E, 0, 0x11, 0x01, 0x12, 0x0B, 0x12, 0x0B, 0x12, 0x01).endAbbrevs();
        holds("first high", highs.unit(new Bytes().u1(1).u1(2).u8(0x100).u1(9).u1(5).u8(0x200).u1(0)), 0x100, 0x109);
        Dwarf lists = new Dwarf().abbrev(1, 0x11, 1).abbrev(2, 0x2E, 0, 0x55, 0x17, 0x55, 0x17).endAbbrevs();
        lists.rnglists.u1(4).uleb(1).uleb(2).u1(0).u1(4).uleb(3).uleb(4).u1(0);
        holds("first list", lists.unit(new Bytes().u1(1).u1(2).u4(4).u4(0).u1(0)), 3, 4);
        Dwarf base = new Dwarf().abbrev(1, 0x11, 1, 0x11, 0x01, 0x11, 0x01).abbrev(2, 0x2E, 0, 0x55, 0x17).endAbbrevs();
        base.rnglists.u1(4).uleb(1).uleb(2).u1(0);
        holds("first low of the unit", base.unit(new Bytes().u1(1).u8(0x500).u8(0x600).u1(2).u4(0).u1(0)), 0x501, 0x502);
    }

    private static void firstOrigin() {
        Dwarf d = new Dwarf().abbrev(1, 0x11, 1).abbrev(2, 0x2E, 0, 0x03, 0x08);
        d.abbrev(3, 0x2E, 0, 0x31, 0x13, 0x31, 0x13, 0x11, 0x01, 0x12, 0x0B).endAbbrevs();
        d.unit(new Bytes().u1(1).u1(2).text("a").u1(2).text("b").u1(3).u4(16).u4(13).u8(5).u1(1).u1(0));
        Check.frames("first origin", d.build(), 5, "b@:0");
    }

    private static void firstCall() {
        Dwarf d = new Dwarf().abbrev(1, 0x11, 1, 0x10, 0x17).abbrev(2, 0x2E, 1, 0x11, 0x01, 0x12, 0x0B);
        d.abbrev(3, 0x1D, 0, 0x11, 0x01, 0x12, 0x0B, 0x58, 0x0B, 0x58, 0x0B, 0x59, 0x0B, 0x59, 0x0B).endAbbrevs();
        d.unit(new Bytes().u1(1).u4(0).u1(2).u8(5).u1(1).u1(3).u8(5).u1(1).u1(0).u1(1).u1(7).u1(8).u1(0).u1(0));
        d.line.all(new LineTable().build());
        Check.frames("first file and line", d.build(), 5, "@:0 @a.c:7");
    }

    private static void firstLines() {
        Dwarf d = new Dwarf().abbrev(1, 0x11, 1, 0x10, 0x17, 0x10, 0x17).abbrev(2, 0x2E, 0, 0x11, 0x01, 0x12, 0x0B).endAbbrevs();
        d.line.all(new LineTable().row(5, 55).end(9).build());
        int second = d.line.size();
        d.line.all(new LineTable().row(5, 66).end(9).build());
        d.unit(new Bytes().u1(1).u4(second).u4(0).u1(2).u8(5).u1(1).u1(0));
        Check.frames("first lines", d.build(), 5, "@b.h:66");
        Check.same("rows", Check.opened("first lines", d.build()).count(4), 2);
    }

    /** The bases stand behind what needs them, each twice. */
    private static void firstBases() {
        Dwarf d = new Dwarf();
        d.abbrev(1, 0x11, 1, 0x11, 0x1B, 0x72, 0x17, 0x73, 0x17, 0x74, 0x17, 0x72, 0x17, 0x73, 0x17, 0x74, 0x17);
        d.abbrev(2, 0x2E, 0, 0x03, 0x25, 0x55, 0x23).endAbbrevs();
        d.unit(new Bytes().u1(1).uleb(0).u4(4).u4(8).u4(4).u4(0).u4(0).u4(0).u1(2).u1(0).uleb(0).u1(0));
        d.str.text("no").text("yes");
        d.strOffsets.u4(0).u4(3);
        d.addr.u8(0x100).u8(0x200);
        d.rnglists.u4(99).u4(4).u1(4).uleb(1).uleb(2).u1(0);
        Check.frames("first bases", d.build(), 0x201, "yes@:0");
        Check.frames("first bases", d.build(), 0x101, "");
    }

    private static void noBases() {
        Dwarf d = new Dwarf().abbrev(1, 0x11, 1, 0x11, 0x1B).abbrev(2, 0x2E, 0, 0x03, 0x25, 0x55, 0x23).endAbbrevs();
        d.unit(new Bytes().u1(1).uleb(1).u1(2).u1(1).uleb(1).u1(0));
        d.str.text("no").text("yes");
        d.strOffsets.u4(0).u4(3);
        d.addr.u8(0x100).u8(0x200);
        d.rnglists.u4(99).u4(8).u1(4).uleb(1).uleb(2).u1(0);
        Check.frames("no bases", d.build(), 0x201, "yes@:0");
    }

    /** Each unit has bases of its own, or none, whatever the units before have. */
    private static void basesOfUnits() {
        Dwarf d = new Dwarf().abbrev(1, 0x11, 1, 0x11, 0x1B, 0x72, 0x17, 0x73, 0x17, 0x74, 0x17);
        d.abbrev(2, 0x2E, 0, 0x03, 0x25, 0x55, 0x23).abbrev(3, 0x11, 1, 0x11, 0x1B).endAbbrevs();
        for (int unit = 2; unit >= 0; unit--) {
            Bytes e = new Bytes().u1(unit == 0 ? 3 : 1).uleb(0);
            if (unit > 0) {
                e.u4(4 * unit).u4(8 * unit).u4(4 * unit);
            }
            d.unit(e.u1(2).u1(0).uleb(0).u1(0));
        }
        d.str.text("a").text("b").text("c");
        d.strOffsets.u4(0).u4(2).u4(4);
        d.addr.u8(0x100).u8(0x200).u8(0x300);
        d.rnglists.u4(12).u4(12).u4(12);
        for (int i = 0; i < 3; i++) {
            d.rnglists.u1(4).uleb(i).uleb(i + 1).u1(0);
        }
        Check.frames("no bases", d.build(), 0x100, "a@:0");
        Check.frames("bases of the second", d.build(), 0x201, "b@:0");
        Check.frames("bases of the third", d.build(), 0x302, "c@:0");
        Check.frames("no other", d.build(), 0x101, "");
    }

    /** A high without a low is no range, of whatever form; nor is a low without a high. */
    private static void highAlone() {
        int[][] highs = {{0x01, 8}, {0x0B, 1}, {0x07, 8}, {0x19, 0}};
        for (int[] high : highs) {
            Dwarf d = new Dwarf().abbrev(1, 0x11, 1).abbrev(2, 0x2E, 0, 0x12, high[0]).endAbbrevs();
            d.unit(new Bytes().u1(1).u1(2).number(high[1], 0x7F).u1(0));
            Check.same("high alone", Check.opened("high", d.build()).count(3), 0);
            Check.frames("high alone", d.build(), 0, "");
        }
        Dwarf low = new Dwarf().abbrev(1, 0x11, 1).abbrev(2, 0x2E, 0, 0x11, 0x01).endAbbrevs();
        low.unit(new Bytes().u1(1).u1(2).u8(5).u1(0));
        Check.same("low alone", Check.opened("low", low.build()).count(3), 0);
        Check.frames("low alone", low.build(), 5, "");
    }
}
