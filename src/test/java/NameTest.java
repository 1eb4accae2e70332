/** Promise 8: name. */
public final class NameTest {
    public static void main(String[] args) {
        characters();
        forms();
        origins();
        chainOfOrigins();
        Check.end();
    }

    private static void characters() {
        FrameFinder x = Check.opened("plain", Samples.plain().build());
        Check.same("before find", x.name(0, 0), -1);
        Check.same("find", x.find(0x1020), 2);
        Check.same("inner", Check.name(x, 0), "inner");
        Check.same("main", Check.name(x, 1), "main");
        Check.same("last character", x.name(0, 4), 'r');
        int[] none = {-1, 5, 6, 3000, 100000, Integer.MAX_VALUE, Integer.MIN_VALUE};
        for (int k : none) {
            Check.same("name(0, " + k + ")", x.name(0, k), -1);
            Check.same("name(2, " + k + ")", x.name(2, k), -1);
        }
        for (int i : new int[] {-1, 2, 3, 16, 17, Integer.MAX_VALUE, Integer.MIN_VALUE}) {
            Check.same("name(" + i + ", 0)", x.name(i, 0), -1);
        }
        Check.same("find of nothing", x.find(0), 0);
        Check.same("no frame then", x.name(0, 0), -1);
        Dwarf high = Samples.tables();
        Bytes e = new Bytes().u1(Samples.BARE_UNIT);
        Samples.function(e, "\u0080\u00FF\u0001", 1, 1).u1(0).u1(0);
        FrameFinder y = Check.opened("high", high.unit(e).build());
        Check.same("find", y.find(1), 1);
        Check.same("128", y.name(0, 0), 128);
        Check.same("255", y.name(0, 1), 255);
        Check.same("1", y.name(0, 2), 1);
        Check.same("end", y.name(0, 3), -1);
    }

    private static void form(String what, int form, Bytes value, String due) {
        Dwarf d = new Dwarf().abbrev(1, 0x11, 1, 0x72, 0x17);
        d.abbrev(2, 0x2E, 0, 0x03, form, 0x11, 0x01, 0x12, 0x0B, 0x03, 0x08).endAbbrevs();
        d.unit(new Bytes().u1(1).u4(4).u1(2).all(value).u8(1).u1(1).text("second").u1(0));
        d.str.text("zero").text("one").text("two");
        d.lineStr.text("line").text("str");
        d.strOffsets.u4(0).u4(9).u4(6);
        FrameFinder x = Check.opened(what, d.build());
        Check.same(what + ": frames", x.find(1), 1);
        Check.same(what, Check.name(x, 0), due);
    }

    private static void forms() {
        form("text", 0x08, new Bytes().text("here"), "here");
        form("empty text", 0x08, new Bytes().text(""), "");
        form("str", 0x0E, new Bytes().u4(5), "one");
        form("str at its end", 0x0E, new Bytes().u4(12), "");
        form("line_str", 0x1F, new Bytes().u4(6), "tr");
        form("index 0", 0x25, new Bytes().u1(0), "two");
        form("index 1", 0x25, new Bytes().u1(1), "ne");
    }

    private static void origins() {
        Dwarf d = new Dwarf().abbrev(1, 0x11, 1).abbrev(2, 0x2E, 0, 0x31, 0x13, 0x11, 0x01, 0x12, 0x0B);
        d.abbrev(3, 0x2E, 0, 0x03, 0x08, 0x31, 0x13, 0x11, 0x01, 0x12, 0x0B).abbrev(4, 0x2E, 0, 0x03, 0x08);
        d.abbrev(5, 0x2E, 0, 0x11, 0x01, 0x12, 0x0B).endAbbrevs();
        // A unit before, so that places in the section and in the unit differ.
        d.unit(new Bytes().u1(1).u1(4).text("wrong").u1(0));
        Bytes e = new Bytes().u1(1);
        int first = 12 + e.size();
        e.u1(4).text("named");
        int byName = 12 + e.size();
        e.u1(2).u4(first).u8(1).u1(1);
        e.u1(3).text("own").u4(first).u8(2).u1(1);
        e.u1(2).u4(byName).u8(3).u1(1);
        int itself = 12 + e.size();
        e.u1(2).u4(itself).u8(4).u1(1);
        e.u1(5).u8(5).u1(1);
        int empty = 12 + e.size();
        e.u1(3).text("").u4(first).u8(6).u1(1);
        e.u1(2).u4(empty).u8(7).u1(1);
        int later = 12 + e.size() + 14;
        e.u1(2).u4(later).u8(8).u1(1).u1(4).text("later").u1(0);
        FrameFinder x = Check.opened("origins", d.unit(e).build());
        String[] due = {"named", "own", "named", "", "", "", "", "later"};
        for (int i = 0; i < due.length; i++) {
            Check.same("find " + (i + 1), x.find(i + 1), 1);
            Check.same("name of " + (i + 1), Check.name(x, 0), due[i]);
        }
    }

    /** Function n has the origin n - 1, and 0 alone has a name: 8 steps lead to it, 9 don't. */
    private static void chainOfOrigins() {
        Dwarf d = new Dwarf().abbrev(1, 0x11, 1).abbrev(2, 0x2E, 0, 0x31, 0x13, 0x11, 0x01, 0x12, 0x0B);
        d.abbrev(3, 0x2E, 0, 0x03, 0x08).endAbbrevs();
        Bytes e = new Bytes().u1(1);
        int before = 12 + e.size();
        e.u1(3).text("n");
        for (int i = 1; i <= 10; i++) {
            int place = 12 + e.size();
            e.u1(2).u4(before).u8(i).u1(1);
            before = place;
        }
        FrameFinder x = Check.opened("chain", d.unit(e.u1(0)).build());
        for (int i = 1; i <= 10; i++) {
            Check.same("find " + i, x.find(i), 1);
            Check.same("name of " + i, Check.name(x, 0), i <= 8 ? "n" : "");
        }
    }
}
