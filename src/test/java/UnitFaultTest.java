/** Promises 4 and 5 by FAULT 2, units, abbreviations and entries. */
public final class UnitFaultTest {
    public static void main(String[] args) {
        heads();
        abbreviations();
        attributes();
        forms();
        numbers();
        nesting();
        limits();
        headBytes();
        tableBytes();
        lengths();
        places();
        highNumbers();
        otherTags();
        Check.end();
    }

    private static Dwarf bare() {
        return new Dwarf().abbrev(1, 0x11, 0).abbrev(2, 0x11, 1).abbrev(3, 0x34, 0).abbrev(4, 0x39, 1).endAbbrevs();
    }

    /** A unit of these entries in the bare abbreviations: the fault is due. */
    private static void entries(String what, int fault, int... entries) {
        Check.fault(what, fault, bare().unit(new Bytes().raw(entries)).build());
    }

    private static void info(String what, int fault, Bytes info) {
        Dwarf d = bare();
        d.info.all(info);
        Check.fault(what, fault, d.build());
    }

    private static void heads() {
        info("a unit", 0, new Bytes().u4(9).u2(5).u1(1).u1(8).u4(0).u1(1));
        info("no unit", 0, new Bytes());
        info("version 4", 2, new Bytes().u4(9).u2(4).u1(1).u1(8).u4(0).u1(1));
        info("version beyond a byte", 2, new Bytes().u4(9).u2(0x105).u1(1).u1(8).u4(0).u1(1));
        info("kind 2", 2, new Bytes().u4(9).u2(5).u1(2).u1(8).u4(0).u1(1));
        info("addresses of 4", 2, new Bytes().u4(9).u2(5).u1(1).u1(4).u4(0).u1(1));
        info("a byte behind the unit", 2, new Bytes().u4(9).u2(5).u1(1).u1(8).u4(0).u1(1).u1(0));
        info("a byte behind the entry", 2, new Bytes().u4(10).u2(5).u1(1).u1(8).u4(0).u1(1).u1(0));
        info("longer than the section", 2, new Bytes().u4(10).u2(5).u1(1).u1(8).u4(0).u1(1));
        info("length with its highest bit", 2, new Bytes().u4(0xFFFFFFF0L).u2(5).u1(1).u1(8).u4(0).u1(1));
        info("length that cuts the head", 2, new Bytes().u4(7).u2(5).u1(1).u1(8).u4(0).u1(1));
        info("length of no entries", 2, new Bytes().u4(8).u2(5).u1(1).u1(8).u4(0));
        info("three bytes", 2, new Bytes().raw(9, 0, 0));
        info("abbreviations beyond", 2, new Bytes().u4(9).u2(5).u1(1).u1(8).u4(100).u1(1));
        info("abbreviations far beyond", 2, new Bytes().u4(9).u2(5).u1(1).u1(8).u4(0xFFFFFFFFL).u1(1));
        // The first byte of the next section would end the children.
        Dwarf next = bare();
        next.info.u4(11).u2(5).u1(1).u1(8).u4(0).u1(2).u1(3);
        next.str.u1(0);
        Check.fault("a unit that ends in the next section", 2, next.build());
        Dwarf second = bare();
        int place = second.abbrev.size();
        second.abbrev(1, 0x11, 0, 0x03, 0x08).endAbbrevs();
        second.unit(0, new Bytes().u1(1)).unit(place, new Bytes().u1(1).text("x"));
        Check.same("each unit has its own", Check.opened("own", second.build()).count(1), 2);
    }

    private static void table(String what, int fault, Bytes abbrev) {
        Dwarf d = new Dwarf();
        d.abbrev.all(abbrev);
        Check.fault(what, fault, d.unit(new Bytes().u1(1)).build());
    }

    private static void abbreviations() {
        table("one", 0, new Bytes().raw(1, 0x11, 0, 0, 0, 0));
        table("more behind their end", 0, new Bytes().raw(1, 0x11, 0, 0, 0, 0, 7, 7, 7));
        table("without their end", 2, new Bytes().raw(1, 0x11, 0, 0, 0));
        table("cut off", 2, new Bytes().raw(1, 0x11, 0, 0));
        table("children 2", 2, new Bytes().raw(1, 0x11, 2, 0, 0, 0));
        table("children 2 where not used", 2, new Bytes().raw(1, 0x11, 0, 0, 0, 2, 0x34, 2, 0, 0, 0));
        table("a number twice", 2, new Bytes().raw(1, 0x11, 0, 0, 0, 1, 0x34, 0, 0, 0, 0));
        table("a number twice, written longer", 2, new Bytes().raw(1, 0x11, 0, 0, 0, 0x81, 0, 0x34, 0, 0, 0, 0));
        table("none", 2, new Bytes().raw(0));
        table("another number", 2, new Bytes().raw(2, 0x11, 0, 0, 0, 0));
        table("a long end", 0, new Bytes().raw(1, 0x11, 0, 0, 0, 0x80, 0));
        table("a long tag", 0, new Bytes().raw(1, 0x91, 0x80, 0, 0, 0, 0, 0));
        table("a tag that only ends so", 2, new Bytes().raw(1, 0x91, 0x80, 0x80, 0x80, 0x80, 1, 0, 0, 0, 0));
    }

    private static void attributes() {
        table("attribute without form", 2, new Bytes().raw(1, 0x11, 0, 5, 0, 0, 0, 0));
        table("attribute 0 with a form", 0, new Bytes().raw(1, 0x11, 0, 0, 0x19, 0, 0, 0));
        table("implicit without value", 2, new Bytes().raw(1, 0x11, 0, 5, 0x21));
        table("implicit with a value", 0, new Bytes().raw(1, 0x11, 0, 5, 0x21, 0xFF, 0x7F, 0, 0, 0));
        for (int n = 12; n <= 13; n++) {
            Bytes abbrev = new Bytes().raw(1, 0x11, 0);
            for (int i = 0; i < n; i++) {
                abbrev.raw(5, 0x19);
            }
            table(n + " attributes", n == 12 ? 0 : 2, abbrev.raw(0, 0, 0));
        }
        for (int n = 40; n <= 41; n++) {
            Bytes abbrev = new Bytes();
            for (int i = 1; i <= n; i++) {
                abbrev.uleb(i).raw(0x11, 0, 0, 0);
            }
            table(n + " abbreviations", n == 40 ? 0 : 2, abbrev.u1(0));
        }
    }

    /** Each form takes just its bytes; one less, or one more, is a fault. */
    private static void forms() {
        int[][] forms = {
            {0x01, 8}, {0x0B, 1}, {0x05, 2}, {0x06, 4}, {0x07, 8}, {0x0E, 4}, {0x1F, 4}, {0x25, 1}, {0x13, 4}, {0x17, 4},
            {0x19, 0}, {0x0D, 1}, {0x0F, 1}, {0x1B, 1}, {0x23, 1}, {0x08, 1}, {0x18, 1}};
        for (int[] f : forms) {
            for (int n = Math.max(0, f[1] - 1); n <= f[1] + 1; n++) {
                Bytes value = new Bytes().raw(new int[n]);
                Check.fault("form " + f[0] + " of " + n, n == f[1] ? 0 : 2, Samples.single(0x7F, f[0], value).build());
            }
        }
        Check.fault("bytes", 0, Samples.single(0x7F, 0x18, new Bytes().raw(3, 1, 2, 3)).build());
        Check.fault("bytes cut off", 2, Samples.single(0x7F, 0x18, new Bytes().raw(3, 1, 2)).build());
        Check.fault("bytes without end", 2, Samples.single(0x7F, 0x18, new Bytes().uleb(-1)).build());
        Check.fault("bytes without sign", 2, Samples.single(0x7F, 0x18, new Bytes().uleb(1L << 63)).build());
        Check.fault("bytes beyond an int", 2, Samples.single(0x7F, 0x18, new Bytes().uleb(1L << 32)).build());
        Check.fault("a text", 0, Samples.single(0x7F, 0x08, new Bytes().text("abc")).build());
        Check.fault("a text without end", 2, Samples.single(0x7F, 0x08, new Bytes().raw(65, 66)).build());
        String known = " 1 11 5 6 7 13 15 33 25 8 14 31 37 19 23 27 35 24 ";
        for (int form = 1; form < 0x30; form++) {
            if (known.indexOf(" " + form + " ") < 0) {
                Check.fault("form " + form, 2, Samples.single(0x7F, form, new Bytes()).build());
                table("unused form " + form, 2, new Bytes().raw(1, 0x11, 0, 0, 0, 2, 0x34, 0, 5, form, 0, 0, 0));
            }
        }
        table("form 0x10B", 2, new Bytes().raw(1, 0x11, 0, 0, 0, 2, 0x34, 0, 5).uleb(0x10B).raw(0, 0, 0));
        table("form beyond an int", 2, new Bytes().raw(1, 0x11, 0, 0, 0, 2, 0x34, 0, 5).uleb(1L << 32 | 0x0B).raw(0, 0, 0));
    }

    private static void numbers() {
        Bytes ten = new Bytes().raw(0x80, 0x80, 0x80, 0x80, 0x80, 0x80, 0x80, 0x80, 0x80, 0);
        Bytes eleven = new Bytes().raw(0x80, 0x80, 0x80, 0x80, 0x80, 0x80, 0x80, 0x80, 0x80, 0x80, 0);
        for (int form : new int[] {0x0D, 0x0F, 0x1B, 0x23, 0x18}) {
            Check.fault("ten bytes of " + form, 0, Samples.single(0x7F, form, ten).build());
            Check.fault("eleven bytes of " + form, 2, Samples.single(0x7F, form, eleven).build());
        }
        // What is beyond 64 bits is lost, so this is the abbreviation 1.
        entries("a number with lost bits", 0, 0x81, 0x80, 0x80, 0x80, 0x80, 0x80, 0x80, 0x80, 0x80, 0x7E);
        entries("a number with bit 63", 2, 0x81, 0x80, 0x80, 0x80, 0x80, 0x80, 0x80, 0x80, 0x80, 0x01);
    }

    private static void nesting() {
        entries("alone", 0, 1);
        entries("children", 0, 2, 3, 3, 0);
        entries("children in children", 0, 2, 4, 3, 0, 4, 0, 0);
        entries("not ended", 2, 2, 3);
        entries("not ended inside", 2, 2, 4, 3, 0);
        entries("ended twice", 2, 2, 3, 0, 0);
        entries("an end where nothing is open", 2, 1, 0);
        entries("an end at first", 2, 0, 1);
        entries("no abbreviation", 2, 2, 9, 0);
        entries("the first is no unit", 2, 3);
        entries("the first is no unit but has one", 2, 4, 1, 0);
        entries("a unit in a unit", 2, 2, 1, 0);
        entries("two behind each other", 2, 1, 3);
        entries("two units behind each other", 2, 1, 1);
        entries("one behind the children", 2, 2, 0, 3);
        entries("a long end", 0, 2, 3, 0x80, 0);
    }

    /** As many entries as there may be, all with values that are kept. */
    private static void most() {
        Dwarf d = new Dwarf().abbrev(1, 0x11, 1).abbrev(2, 0x2E, 0, 0x03, 0x08, 0x11, 0x01, 0x12, 0x19, 0x59, 0x19);
        d.abbrev(3, 0x0B, 0, 0x58, 0x21, 5, 0x59, 0x21, 6).endAbbrevs();
        Bytes e = new Bytes().u1(1);
        for (int i = 0; i < 198; i++) {
            e.u1(3);
        }
        FrameFinder x = Check.opened("most", d.unit(e.u1(2).text("last").u8(77).u1(0)).build());
        Check.same("entries", x.count(2), 200);
        Check.same("frames", Check.frames(x, 77), "last@:0");
    }

    private static void limits() {
        for (int n = 16; n <= 17; n++) {
            Bytes e = new Bytes().u1(2);
            for (int i = 1; i < n; i++) {
                e.u1(4);
            }
            e.u1(3);
            for (int i = 0; i < n; i++) {
                e.u1(0);
            }
            Check.fault(n + " open", n == 16 ? 0 : 2, bare().unit(e).build());
        }
        for (int n = 199; n <= 200; n++) {
            Dwarf d = bare().unit(new Bytes().u1(1));
            Bytes e = new Bytes().u1(2);
            for (int i = 1; i < n; i++) {
                e.u1(3);
            }
            Check.fault(n + 1 + " entries of two units", n == 199 ? 0 : 2, d.unit(e.u1(0)).build());
        }
        most();
        Dwarf d = bare();
        for (int n = 1; n <= 5; n++) {
            d.unit(new Bytes().u1(1));
            Check.fault(n + " units", n <= 4 ? 0 : 2, d.build());
        }
    }

    /** Every value of the bytes of a unit's head that must be just so. */
    private static void headBytes() {
        for (int at = 0; at < 4; at++) {
            for (int value = 0; value < 256; value++) {
                int[] head = {5, 0, 1, 8};
                boolean same = head[at] == value;
                head[at] = value;
                info("byte " + (4 + at) + " as " + value, same ? 0 : 2, new Bytes().u4(9).raw(head).u4(0).u1(1));
            }
        }
    }

    /** Every value of the byte of children, and of a form. */
    private static void tableBytes() {
        String known = " 1 11 5 6 7 13 15 33 25 8 14 31 37 19 23 27 35 24 ";
        for (int value = 0; value < 256; value++) {
            Bytes children = new Bytes().raw(1, 0x11, 0, 0, 0, 2, 0x34).u1(value).raw(0, 0, 0);
            table("children " + value, value <= 1 ? 0 : 2, children);
            Bytes form = new Bytes().raw(1, 0x11, 0, 0, 0, 2, 0x34, 0, 5).uleb(value);
            form = value == 0x21 ? form.sleb(9) : form;
            table("form " + value, known.contains(" " + value + " ") ? 0 : 2, form.raw(0, 0, 0));
        }
        for (long form : new long[] {0x1F01, 0x1F02, 0x1F20, 0x1F21, 0x8001, 1L << 31 | 0x0B, 1L << 63 | 0x0B, -1}) {
            table("form " + form, 2, new Bytes().raw(1, 0x11, 0, 0, 0, 2, 0x34, 0, 5).uleb(form).raw(0, 0, 0));
        }
        // Only 0 and 0 end the attributes: behind attribute 0 of a form more of them stand.
        Dwarf zero = new Dwarf().abbrev(1, 0x11, 0, 0, 0x0B, 0x03, 0x08).endAbbrevs();
        Check.fault("attribute 0 with a form", 0, zero.unit(new Bytes().u1(1).u1(7).text("n")).build());
        for (long attribute : new long[] {1, 127, 128, 1L << 32, 1L << 63, -1}) {
            table("attribute " + attribute + " of form 0", 2, new Bytes().raw(1, 0x11, 0).uleb(attribute).raw(0, 0, 0, 0));
            table("attribute " + attribute, 0, new Bytes().raw(1, 0x11, 0).uleb(attribute).raw(0x19, 0, 0, 0));
        }
    }

    /** Of every length of a unit just one is right, with another unit behind it too. */
    private static void lengths() {
        for (int behind = 0; behind <= 1; behind++) {
            for (int length = 0; length < 40; length++) {
                Bytes b = new Bytes().u4(length).u2(5).u1(1).u1(8).u4(0).u1(2).u1(3).u1(0);
                if (behind == 1) {
                    b.u4(9).u2(5).u1(1).u1(8).u4(0).u1(1);
                }
                info("length " + length + " before " + behind, length == 11 ? 0 : 2, b);
            }
        }
        for (int n = 1; n < 13; n++) {
            Bytes cut = new Bytes().u4(9).u2(5).u1(1).u1(8).u4(0).u1(1);
            for (int i = 0; i < n; i++) {
                cut.u1(i == 0 ? 9 : i == 4 ? 5 : i == 6 ? 1 : i == 7 ? 8 : 0);
            }
            info("a second unit of " + n + " bytes", 2, cut);
        }
    }

    /** A place in .debug_abbrev where there is no table, or none that ends within. */
    private static void places() {
        Dwarf d = new Dwarf().abbrev(1, 0x11, 0).endAbbrevs();
        int second = d.abbrev.size();
        d.abbrev(2, 0x11, 0);
        int open = d.abbrev.size();
        int[] places = {0, second, open, open + 1, 0x7FFFFFFF, -1};
        for (int place : places) {
            Dwarf at = new Dwarf();
            at.abbrev.all(d.abbrev);
            at.unit(place & 0xFFFFFFFFL, new Bytes().u1(1));
            Check.fault("abbreviations at " + place, place == 0 ? 0 : 2, at.build());
            at.abbrev.u1(0);
            Dwarf ended = new Dwarf();
            ended.abbrev.all(at.abbrev);
            ended.unit(place & 0xFFFFFFFFL, new Bytes().u1(2));
            Check.fault("ended abbreviations at " + place, place == second ? 0 : 2, ended.build());
        }
        // Both units may use one table.
        Dwarf both = new Dwarf().abbrev(1, 0x11, 0).endAbbrevs();
        Check.fault("one table", 0, both.unit(0, new Bytes().u1(1)).unit(0, new Bytes().u1(1)).build());
    }

    /** Numbers of abbreviations are any but 0, each once. */
    private static void highNumbers() {
        for (long number : new long[] {127, 128, 1L << 31, 1L << 32, 1L << 63, -1}) {
            Dwarf d = new Dwarf().abbrev(number, 0x11, 1).abbrev(1, 0x34, 0).abbrev(number ^ 2, 0x35, 0).endAbbrevs();
            Check.fault("number " + number, 0, d.unit(new Bytes().uleb(number).u1(1).uleb(number ^ 2).u1(0)).build());
            Dwarf twice = new Dwarf().abbrev(number, 0x11, 0).abbrev(1, 0x34, 0).abbrev(number, 0x35, 0).endAbbrevs();
            Check.fault("number " + number + " twice", 2, twice.unit(new Bytes().uleb(number)).build());
        }
        Dwarf low = new Dwarf().abbrev(1, 0x11, 0).endAbbrevs();
        for (long number : new long[] {1L << 32 | 1, 1L << 8 | 1, 1L << 16 | 1, 1L << 63 | 1}) {
            Dwarf d = new Dwarf();
            d.abbrev.all(low.abbrev);
            Check.fault("entry of number " + number, 2, d.unit(new Bytes().uleb(number)).build());
        }
    }

    /** The tag 0x11 for the first entry, and for no other. */
    private static void otherTags() {
        for (long tag : new long[] {0, 1, 0x0B, 0x10, 0x11, 0x12, 0x1D, 0x2E, 0x3C, 0x41, 0x4A, 0x111, 1L << 32 | 0x11, 1L << 63 | 0x11}) {
            Dwarf first = new Dwarf().abbrev(1, tag, 0).endAbbrevs().unit(new Bytes().u1(1));
            Check.fault("first of tag " + tag, tag == 0x11 ? 0 : 2, first.build());
            Dwarf child = new Dwarf().abbrev(1, 0x11, 1).abbrev(2, tag, 0).endAbbrevs().unit(new Bytes().u1(1).u1(2).u1(0));
            Check.fault("child of tag " + tag, tag == 0x11 ? 2 : 0, child.build());
            Dwarf next = new Dwarf().abbrev(1, 0x11, 0).abbrev(2, tag, 0).endAbbrevs().unit(new Bytes().u1(1).u1(2));
            Check.fault("behind the first, of tag " + tag, 2, next.build());
        }
    }
}
