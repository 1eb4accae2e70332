/** Promises 4 and 5 by FAULT 3, values. */
public final class ValueFaultTest {
    private static final int[] FORMS = {
        0x01, 0x0B, 0x05, 0x06, 0x07, 0x0D, 0x0F, 0x21, 0x19, 0x08, 0x0E, 0x1F, 0x25, 0x13, 0x17, 0x1B, 0x23, 0x18};
    private static final int[] TAGS = {0x11, 0x2E, 0x1D, 0x0B, 0x34};
    private static final String CONSTANTS = " 11 5 6 7 13 15 33 25 ";

    public static void main(String[] args) {
        formsOfAttributes();
        onlyTheFirst();
        texts();
        addresses();
        origins();
        lists();
        rangeLimit();
        Check.end();
    }

    private static boolean isOf(String forms, int form) {
        return forms.indexOf(" " + form + " ") >= 0;
    }

    private static void formsOfAttributes() {
        String texts = " 8 14 31 37 ";
        String addresses = " 1 27 ";
        forms(0x03, texts, false);
        forms(0x11, addresses, false);
        forms(0x12, addresses + CONSTANTS, false);
        forms(0x55, " 23 35 ", false);
        forms(0x31, " 19 ", false);
        forms(0x58, CONSTANTS, false);
        forms(0x59, CONSTANTS, false);
        forms(0x72, " 23 ", true);
        forms(0x73, " 23 ", true);
        forms(0x74, " 23 ", true);
        linesOfAnotherForm();
        StringBuilder all = new StringBuilder(" ");
        for (int form : FORMS) {
            all.append(form).append(' ');
        }
        forms(0x25, all.toString(), false);
    }

    private static void linesOfAnotherForm() {
        Check.fault("lines of form 0x0B", 3, Samples.single(0x10, 0x0B, new Bytes().u1(0)).build());
        Check.fault("lines of form 0x06", 3, Samples.single(0x10, 0x06, new Bytes().u4(0)).build());
        Dwarf d = new Dwarf().abbrev(1, 0x11, 0, 0x74, 0x17).abbrev(2, 0x11, 0, 0x74, 0x06).endAbbrevs();
        for (int i = 0; i < 3; i++) {
            d.unit(new Bytes().u1(1).u4(0));
        }
        Check.fault("bases of three units", 0, d.build());
        Check.fault("a base of the fourth", 3, d.unit(new Bytes().u1(2).u4(0)).build());
    }

    /** Every form of an attribute in an entry of every tag, all that it may lead to being there. */
    private static void forms(int attribute, String fine, boolean ofUnits) {
        for (int tag : TAGS) {
            for (int form : FORMS) {
                boolean counts = ofUnits ? tag == 0x11 : tag != 0x34;
                boolean due = !counts || isOf(fine, form);
                String what = "attribute " + attribute + ", form " + form + ", tag " + tag;
                Check.fault(what, due ? 0 : 3, file(tag, attribute, form));
            }
        }
    }

    private static byte[] file(int tag, int attribute, int form) {
        Dwarf d = new Dwarf();
        boolean isUnit = tag == 0x11;
        long[] pairs = form == 0x21 ? new long[] {attribute, form, 0} : new long[] {attribute, form};
        d.abbrev(1, 0x11, 1, isUnit ? pairs : new long[0]);
        d.abbrev(2, 0x2E, 0);
        d.abbrev(3, tag, 0, pairs).endAbbrevs();
        Bytes value = value(form, isUnit ? 13 + width(form) : 13);
        Bytes e = new Bytes().u1(1);
        if (isUnit) {
            e.all(value).u1(2);
        } else {
            e.u1(2).u1(3).all(value);
        }
        d.unit(e.u1(0));
        d.str.u1(0);
        d.lineStr.u1(0);
        d.strOffsets.u4(0);
        d.addr.u8(0);
        d.rnglists.u4(0);
        return d.build();
    }

    private static int width(int form) {
        return value(form, 0).size();
    }

    private static Bytes value(int form, int entry) {
        switch (form) {
            case 0x01: case 0x07: return new Bytes().u8(0);
            case 0x05: return new Bytes().u2(0);
            case 0x06: case 0x0E: case 0x1F: case 0x17: return new Bytes().u4(0);
            case 0x13: return new Bytes().u4(entry);
            case 0x21: case 0x19: return new Bytes();
            default: return new Bytes().u1(0);
        }
    }

    private static void onlyTheFirst() {
        Dwarf second = new Dwarf().abbrev(1, 0x11, 0, 0x03, 0x08, 0x03, 0x0B, 0x72, 0x17, 0x72, 0x0B).endAbbrevs();
        second.unit(new Bytes().u1(1).text("u").u1(0).u4(0).u1(0));
        Check.fault("a second name of another form", 0, second.build());
        Dwarf first = new Dwarf().abbrev(1, 0x11, 0, 0x03, 0x0B, 0x03, 0x08).endAbbrevs();
        first.unit(new Bytes().u1(1).u1(0).text("u"));
        Check.fault("a first name of another form", 3, first.build());
        Dwarf base = new Dwarf().abbrev(1, 0x11, 0, 0x72, 0x0B, 0x72, 0x17).endAbbrevs();
        base.unit(new Bytes().u1(1).u1(0).u4(0));
        Check.fault("a first base of another form", 3, base.build());
        Dwarf passed = new Dwarf().abbrev(1, 0x11, 1).abbrev(2, 0x39, 1, 0x03, 0x0E).abbrev(3, 0x2E, 0, 0x03, 0x0E).endAbbrevs();
        Check.fault("what is in one that is passed", 3,
            passed.unit(new Bytes().u1(1).u1(2).u4(9).u1(3).u4(9).u1(0).u1(0)).build());
    }

    private static void text(String what, int fault, int form, Bytes value, Bytes str, Bytes offsets) {
        Dwarf d = new Dwarf().abbrev(1, 0x11, 0, 0x72, 0x17, 0x03, form).endAbbrevs();
        d.unit(new Bytes().u1(1).u4(form == 0x25 ? 8 : 0).all(value));
        (form == 0x1F ? d.lineStr : d.str).all(str);
        d.strOffsets.all(offsets);
        Check.fault(what, fault, d.build());
    }

    private static void texts() {
        Bytes str = new Bytes().text("abc");
        Bytes open = new Bytes().text("abc").u1('x');
        Bytes none = new Bytes();
        for (int form : new int[] {0x0E, 0x1F}) {
            text("the last byte by " + form, 0, form, new Bytes().u4(3), str, none);
            text("behind by " + form, 3, form, new Bytes().u4(4), str, none);
            text("far behind by " + form, 3, form, new Bytes().u4(0xFFFFFFFFL), str, none);
            text("without end by " + form, 3, form, new Bytes().u4(4), open, none);
            text("no section by " + form, 3, form, new Bytes().u4(0), none, none);
        }
        Bytes offsets = new Bytes().u8(0).u4(0).u4(3).u4(4);
        text("index 0", 0, 0x25, new Bytes().u1(0), str, offsets);
        text("index 1", 0, 0x25, new Bytes().u1(1), str, offsets);
        text("index of a place behind", 3, 0x25, new Bytes().u1(2), str, offsets);
        text("index behind", 3, 0x25, new Bytes().u1(3), str, offsets);
        text("index cut off", 3, 0x25, new Bytes().u1(0), str, new Bytes().u8(0).u2(0).u1(0));
        text("no offsets", 3, 0x25, new Bytes().u1(0), str, none);
        Dwarf noBase = new Dwarf().abbrev(1, 0x11, 0, 0x03, 0x25).endAbbrevs().unit(new Bytes().u1(1).u1(0));
        noBase.str.text("a");
        noBase.strOffsets.u4(1);
        Check.fault("without a base", 0, noBase.build());
    }

    private static void address(String what, int fault, int attribute, long base, long index) {
        Dwarf d = new Dwarf().abbrev(1, 0x11, 0, attribute, 0x1B, 0x73, 0x17).endAbbrevs();
        d.unit(new Bytes().u1(1).uleb(index).u4(base));
        d.addr.u8(1).u8(2);
        Check.fault(what, fault, d.build());
    }

    private static void addresses() {
        for (int attribute = 0x11; attribute <= 0x12; attribute++) {
            address("index 1", 0, attribute, 0, 1);
            address("index 2", 3, attribute, 0, 2);
            address("base 8", 0, attribute, 8, 0);
            address("base 9", 3, attribute, 9, 0);
            address("base far behind", 3, attribute, 0xFFFFFFF8L, 0);
            address("an index that would wrap", 3, attribute, 0, 1L << 61);
            address("an index that would wrap back", 3, attribute, 8, -1);
            address("an index whose int is 0", 3, attribute, 0, 1L << 32);
        }
    }

    private static void origin(String what, int fault, long place) {
        Dwarf d = new Dwarf().abbrev(1, 0x11, 1).abbrev(2, 0x2E, 0, 0x31, 0x13).abbrev(3, 0x34, 0).abbrev(4, 0x1D, 0);
        d.endAbbrevs().unit(new Bytes().u1(1).u1(3).u1(4).u1(0));
        // In the second unit: 12 unit, 13 variable, 14 function put in, 15 function, 20 its end.
        d.unit(new Bytes().u1(1).u1(3).u1(4).u1(2).u4(place).u1(0));
        Check.fault(what, fault, d.build());
    }

    private static void origins() {
        origin("one put in", 0, 14);
        origin("itself", 0, 15);
        origin("a unit", 3, 12);
        origin("a variable", 3, 13);
        origin("inside an entry", 3, 16);
        origin("an end", 3, 20);
        origin("behind the unit", 3, 21);
        origin("the head", 3, 0);
        origin("far behind", 3, 0xFFFFFFFFL);
        origin("back to the unit before", 3, 0xFFFFFFFEL);
        Dwarf later = new Dwarf().abbrev(1, 0x11, 1).abbrev(2, 0x2E, 0, 0x31, 0x13).abbrev(3, 0x1D, 0).endAbbrevs();
        Check.fault("a later one", 0, later.unit(new Bytes().u1(1).u1(2).u4(18).u1(3).u1(0)).build());
        Dwarf next = new Dwarf().abbrev(1, 0x11, 1).abbrev(2, 0x2E, 0, 0x31, 0x13).abbrev(3, 0x1D, 0).endAbbrevs();
        next.unit(new Bytes().u1(1).u1(2).u4(19 + 13).u1(0)).unit(new Bytes().u1(1).u1(3).u1(0));
        Check.fault("one of the next unit", 3, next.build());
    }

    private static void list(String what, int fault, Bytes list) {
        Dwarf d = new Dwarf().abbrev(1, 0x11, 0, 0x55, 0x17).endAbbrevs().unit(new Bytes().u1(1).u4(1));
        d.rnglists.u1(9).all(list);
        d.addr.u8(5).u8(6);
        Check.fault(what, fault, d.build());
    }

    private static void lists() {
        list("empty", 0, new Bytes().raw(0));
        list("nothing there", 3, new Bytes());
        for (int kind = 8; kind < 256; kind += 31) {
            list("kind " + kind, 3, new Bytes().u1(kind).raw(new int[20]));
        }
        Bytes[] pieces = {
            new Bytes().u1(1).uleb(1), new Bytes().u1(2).uleb(0).uleb(1), new Bytes().u1(3).uleb(1).uleb(7),
            new Bytes().u1(4).uleb(0).uleb(300), new Bytes().u1(5).u8(1), new Bytes().u1(6).u8(1).u8(2),
            new Bytes().u1(7).u8(1).uleb(300)};
        for (Bytes piece : pieces) {
            byte[] bytes = piece.array();
            list("kind " + bytes[0], 0, new Bytes().all(piece).u1(0));
            list("kind " + bytes[0] + " without end", 3, piece);
            Bytes cut = new Bytes();
            for (int i = 0; i + 1 < bytes.length; i++) {
                cut.u1(bytes[i]);
            }
            list("kind " + bytes[0] + " cut off", 3, cut);
        }
        list("kind 1 behind", 3, new Bytes().u1(1).uleb(2).u1(0));
        list("kind 2 behind", 3, new Bytes().u1(2).uleb(2).uleb(1).u1(0));
        list("kind 2 behind at its end", 3, new Bytes().u1(2).uleb(1).uleb(2).u1(0));
        list("kind 3 behind", 3, new Bytes().u1(3).uleb(2).uleb(1).u1(0));
        list("kind 3 far behind", 3, new Bytes().u1(3).uleb(1L << 61).uleb(1).u1(0));
        Dwarf far = new Dwarf().abbrev(1, 0x11, 0, 0x55, 0x17).endAbbrevs().unit(new Bytes().u1(1).u4(2));
        far.rnglists.u2(0);
        Check.fault("a list behind the section", 3, far.build());
        indexed("a list by its index", 0, 4, 1);
        indexed("one of which the number is not there", 3, 4, 2);
        indexed("one that leads behind", 3, 4, 0);
        indexed("one that would wrap", 3, 4, 1L << 62);
        indexed("a base behind", 3, 0xFFFFFFFCL, 0);
    }

    private static void indexed(String what, int fault, long base, long index) {
        Dwarf d = new Dwarf().abbrev(1, 0x11, 0, 0x55, 0x23, 0x74, 0x17).endAbbrevs();
        d.unit(new Bytes().u1(1).uleb(index).u4(base));
        // From base 4 on: the places 9 and 8; the list at 8 from base 4 is the last byte.
        d.rnglists.u4(0xFFFFFFFFL).u4(9).u4(8).u1(0);
        Check.fault(what, fault, d.build());
    }

    private static void rangeLimit() {
        for (int n = 297; n <= 298; n++) {
            Dwarf d = new Dwarf().abbrev(1, 0x11, 1, 0x11, 0x01, 0x12, 0x0B, 0x55, 0x17).abbrev(2, 0x2E, 0, 0x55, 0x17);
            d.abbrev(3, 0x0B, 0, 0x11, 0x01, 0x12, 0x0B).endAbbrevs();
            Bytes e = new Bytes().u1(1).u8(0).u1(0).u4(3 * (n - 1)).u1(2).u4(0);
            d.unit(e.u1(3).u8(0).u1(0).u1(3).u8(0).u1(0).u1(0));
            for (int i = 0; i < n; i++) {
                d.rnglists.u1(4).uleb(1).uleb(1);
            }
            d.rnglists.u1(0);
            int all = 1 + n + 2;
            Check.fault(all + " ranges", all <= 300 ? 0 : 3, d.build());
            if (all <= 300) {
                Check.same(all + " ranges", Check.opened("ranges", d.build()).count(3), all);
            }
        }
    }
}
