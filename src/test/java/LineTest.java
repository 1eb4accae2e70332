/** Promise 10: line, and what the program of lines does. */
public final class LineTest {
    public static void main(String[] args) {
        frames();
        calls();
        codes();
        sequences();
        withoutSign();
        twoUnits();
        specials();
        goingOn();
        wrapping();
        Check.end();
    }

    private static void frames() {
        FrameFinder x = Check.opened("plain", Samples.plain().build());
        Check.same("before find", x.line(0), -1);
        Check.same("find", x.find(0x1025), 2);
        Check.same("of the row", x.line(0), 6);
        Check.same("of the call", x.line(1), 77);
        for (int i : new int[] {-1, 2, 16, 17, Integer.MAX_VALUE, Integer.MIN_VALUE}) {
            Check.same("line(" + i + ")", x.line(i), -1);
        }
        Check.same("without a row", x.find(0x2000), 1);
        Check.same("is 0", x.line(0), 0);
    }

    private static void calls() {
        call("u1", 0x0B, new Bytes().u1(200), 200);
        call("u4", 0x06, new Bytes().u4(0xFFFFFFFEL), -2);
        call("u8", 0x07, new Bytes().u8(0x1234567890ABCDEFL), 0x90ABCDEF);
        call("SLEB", 0x0D, new Bytes().sleb(-7), -7);
        call("ULEB", 0x0F, new Bytes().uleb(1L << 40 | 5), 5);
        call("one", 0x19, new Bytes(), 1);
        call("constant", 0x21, new Bytes(), -300);
        call("none", 0, new Bytes(), 0);
    }

    private static void call(String what, int form, Bytes value, int due) {
        Dwarf d = new Dwarf().abbrev(1, 0x11, 1).abbrev(2, 0x2E, 1, 0x11, 0x01, 0x12, 0x0B);
        long[] all = {0x11, 0x01, 0x12, 0x0B, 0x59, form, -300};
        d.abbrev(3, 0x1D, 0, java.util.Arrays.copyOf(all, form == 0 ? 4 : form == 0x21 ? 7 : 6)).endAbbrevs();
        d.unit(new Bytes().u1(1).u1(2).u8(1).u1(9).u1(3).u8(1).u1(9).all(value).u1(0).u1(0));
        FrameFinder x = Check.opened(what, d.build());
        Check.same("call by " + what, x.find(1), 2);
        Check.same("call by " + what, x.line(1), due);
        Check.same("innermost", x.line(0), 0);
    }

    /** A function that holds all addresses but the last one. */
    private static FrameFinder opened(String what, LineTable table) {
        Dwarf d = Samples.tables();
        Bytes e = new Bytes().u1(Samples.UNIT).u4(0);
        d.unit(Samples.function(e, "f", 0, -1).u1(0).u1(0));
        d.line.all(table.build());
        return Check.opened(what, d.build());
    }

    private static void due(String what, FrameFinder x, long address, int line) {
        Check.same(what, x.find(address), 1);
        Check.same(what + " at " + Long.toHexString(address), x.line(0), line);
    }

    private static LineTable table(int... codes) {
        LineTable t = new LineTable();
        t.program.raw(codes);
        return t;
    }

    private static final int[] END = {2, 5, 0, 1, 1};

    private static FrameFinder program(String what, int... codes) {
        LineTable t = table(codes);
        t.program.raw(END);
        return opened(what, t);
    }

    private static void codes() {
        due("at first", program("1", 1), 0, 1);
        due("special", program("13", 13), 0, -2);
        due("special 23", program("23", 23), 1, -2);
        due("special 255", program("255", 255), 24, 0);
        due("before special 255", program("255", 255), 23, 0);
        due("2", program("2", 2, 0x80, 1, 1), 128, 1);
        due("3", program("3", 3, 0x7F, 1), 0, 0);
        due("3 up", program("3", 3, 0xE4, 0, 1), 0, 101);
        due("5, 6, 7, 10, 11, 12", program("nothing", 5, 0x80, 7, 6, 7, 10, 11, 12, 0x81, 3, 1), 0, 1);
        due("8", program("8", 8, 1), 24, 1);
        due("9", program("9", 9, 0x34, 0x12, 1), 0x1234, 1);
        FrameFinder before = program("9", 9, 0x34, 0x12, 1);
        due("before 9", before, 0x1233, 0);
        due("unknown", program("unknown", 0, 3, 0x80, 1, 1, 1), 0, 1);
        due("an address and what is left", program("left", 0, 11, 2, 5, 0, 0, 0, 0, 0, 0, 0, 1, 1, 1), 5, 1);
        due("8 behind 2", program("8", 2, 10, 8, 1), 34, 1);
        due("before that", program("8", 2, 10, 8, 1), 33, 0);
        due("9 behind 2", program("9", 2, 10, 9, 10, 0, 1), 20, 1);
        due("before that", program("9", 2, 10, 9, 10, 0, 1), 19, 0);
        due("2 behind 2", program("2", 2, 10, 2, 10, 1), 20, 1);
        FrameFinder again = program("again", 3, 8, 2, 10, 1, 2, 5, 0, 1, 1, 3, 1, 1);
        due("all begins anew behind an end", again, 4, 2);
        due("though the first was elsewhere", again, 10, 9);
        wrap();
        otherHead();
        gap();
    }

    private static void wrap() {
        LineTable t = new LineTable();
        t.program.u1(3).sleb(Integer.MAX_VALUE).u1(1).raw(END);
        due("a line that wraps", opened("wrap", t), 0, Integer.MIN_VALUE);
        LineTable far = new LineTable();
        far.program.u1(3).sleb(1L << 40 | 6).u1(1).raw(END);
        due("a line beyond an int", opened("far", far), 0, 7);
        LineTable minus = new LineTable();
        minus.program.u1(3).sleb(-2).u1(1).raw(END);
        LineTable two = new LineTable();
        two.program.u1(3).sleb(-8192).u1(1).raw(END);
        due("a line by two bytes with sign", opened("two", two), 0, -8191);
        LineTable nine = new LineTable();
        nine.program.u1(3).raw(0xFC, 0xFF, 0xFF, 0xFF, 0xFF, 0xFF, 0xFF, 0xFF, 0x7F).u1(1).raw(END);
        due("a line by nine bytes with sign", opened("nine", nine), 0, -3);
        due("a line that is NONE's number", opened("minus", minus), 0, -1);
        LineTable address = new LineTable();
        address.program.u1(2).uleb(-5).u1(2).uleb(10).u1(1).raw(END);
        due("an address that wraps", opened("address", address), 5, 1);
        due("its end", opened("address", address), 10, 0);
    }

    private static void otherHead() {
        LineTable t = new LineTable();
        t.lineBase = 5;
        t.lineRange = 3;
        t.first = 10;
        t.operands = new Bytes().raw(new int[9]);
        // 12 is a special code here: 2 of line and 0 of address; 8 goes on by 245 / 3.
        t.program.raw(12, 8, 1, 2, 1, 0, 1, 1);
        FrameFinder x = opened("head", t);
        due("12 as a special code", x, 0, 8);
        due("before 8", x, 80, 8);
        due("behind 8", x, 81, 8);
        due("its end", x, 82, 0);
        LineTable eleven = new LineTable();
        eleven.lineRange = 11;
        eleven.program.raw(8, 1).raw(END);
        due("8 as with 255", opened("eleven", eleven), 22, 1);
        due("before it", opened("eleven", eleven), 21, 0);
        LineTable more = new LineTable();
        more.first = 14;
        more.operands = new Bytes().raw(0, 0, 0, 0, 0, 0, 0, 0, 0, 0, 0, 0, 2);
        more.program.raw(13, 1, 0x81, 1, 14 + 4).raw(END);
        due("operands that are passed", opened("more", more), 0, 2);
    }

    private static void gap() {
        LineTable t = new LineTable();
        t.gap.raw(1, 2, 3, 1, 1);
        t.program.raw(3, 9, 1).raw(END);
        FrameFinder x = opened("gap", t);
        due("what is between is passed", x, 0, 10);
        Check.same("rows", x.count(4), 2);
    }

    private static void sequences() {
        LineTable t = new LineTable().row(0x100, 1).row(0x110, 2).end(0x120);
        t.row(0x118, 3).row(0x130, 4).row(0x128, 5).row(0x128, 6).end(0x140);
        t.end(0x200).row(0x300, 7).row(0x400, 8);
        FrameFinder x = opened("sequences", t);
        due("before", x, 0xFF, 0);
        due("first", x, 0x100, 1);
        due("up to the next", x, 0x10F, 1);
        due("next", x, 0x110, 2);
        due("the first sequence that holds it", x, 0x118, 2);
        due("its last", x, 0x11F, 2);
        due("its end is the second's", x, 0x120, 3);
        due("the last row of two", x, 0x128, 6);
        due("the last row though another is nearer", x, 0x130, 6);
        due("the last", x, 0x13F, 6);
        due("behind", x, 0x140, 0);
        due("an end alone", x, 0x200, 0);
        due("what is behind the last end", x, 0x300, 0);
        due("and on", x, 0x350, 0);
        Check.same("rows", x.count(4), 11);
        LineTable back = new LineTable().row(0x200, 1).row(0x100, 2).end(0x300);
        FrameFinder y = opened("back", back);
        due("below the first row", y, 0x100, 0);
        due("a later row below", y, 0x200, 2);
        LineTable low = new LineTable().row(0x200, 1).end(0x100);
        due("an end before its first row", opened("low", low), 0x180, 0);
        due("an end before its first row, behind", opened("low", low), 0x200, 0);
    }

    /** What the first unit leaves open is not ended by the second one's rows. */
    private static void twoUnits() {
        Dwarf d = Samples.tables();
        d.line.all(new LineTable().row(0x10, 5).build());
        int second = d.line.size();
        d.line.all(new LineTable().end(0x20).build());
        Bytes e = new Bytes().u1(Samples.UNIT).u4(0);
        d.unit(Samples.function(e, "f", 0, -1).u1(0).u1(0));
        d.unit(new Bytes().u1(Samples.UNIT).u4(second).u1(0));
        due("no sequence", Check.opened("two units", d.build()), 0x18, 0);
        // The program of the second unit begins at address 0 too.
        Dwarf late = Samples.tables();
        late.line.all(new LineTable().row(0x10, 5).build());
        int place = late.line.size();
        late.line.all(table(3, 6, 1, 2, 9, 0, 1, 1).build());
        Bytes o = new Bytes().u1(Samples.UNIT).u4(0);
        late.unit(o.u1(0));
        Bytes g = new Bytes().u1(Samples.UNIT).u4(place);
        late.unit(Samples.function(g, "g", 0, -1).u1(0).u1(0));
        due("its own registers", Check.opened("late", late.build()), 3, 7);
    }

    private static void withoutSign() {
        LineTable t = new LineTable().row(0x7FFFFFFFFFFFFFF0L, 1).row(0x8000000000000000L, 2).end(0xF000000000000000L);
        FrameFinder x = opened("without sign", t);
        due("low", x, 0x7FFFFFFFFFFFFFFFL, 1);
        due("high", x, 0x8000000000000000L, 2);
        due("higher", x, 0xEFFFFFFFFFFFFFFFL, 2);
        due("end", x, 0xF000000000000000L, 0);
        due("zero", x, 0, 0);
    }

    /** A row at an address only, its end being one behind: the line is due there, and none around it. */
    private static void alone(String what, LineTable t, long address, int line) {
        t.program.raw(2, 1, 0, 1, 1);
        FrameFinder x = opened(what, t);
        due(what + ": before", x, address - 1, 0);
        due(what, x, address, line);
        due(what + ": behind", x, address + 1, 0);
    }

    /** Every special code of several heads. */
    private static void specials() {
        int[][] heads = {{-3, 10, 13}, {0, 1, 10}, {-128, 255, 200}, {127, 255, 10}, {-1, 4, 10}, {-5, 14, 13}, {1, 128, 11}};
        for (int[] h : heads) {
            for (int code = h[2]; code < 256; code++) {
                LineTable t = head(h);
                // From 1000 on, so that there is an address before the row.
                t.program.raw(2, 0xE8, 7).u1(code);
                int s = code - h[2];
                alone("special " + code + " of first " + h[2], t, 1000 + s / h[1], 1 + h[0] + s % h[1]);
            }
            LineTable t = head(h);
            t.program.raw(2, 0xE8, 7).raw(8, 8, 1);
            alone("8 of first " + h[2], t, 1000 + 2 * ((255 - h[2]) / h[1]), 1);
        }
    }

    private static LineTable head(int[] h) {
        LineTable t = new LineTable();
        t.lineBase = h[0];
        t.lineRange = h[1];
        t.first = h[2];
        t.operands = new Bytes().raw(new int[h[2] - 1]);
        return t;
    }

    private static void goingOn() {
        LineTable u2 = new LineTable();
        u2.program.raw(9, 0xFF, 0xFF, 9, 0xFE, 0xFF, 1);
        alone("9 without sign", u2, 0xFFFF + 0xFFFE, 1);
        LineTable uleb = new LineTable();
        uleb.program.u1(2).uleb(1L << 62).u1(2).uleb(1L << 62).u1(1);
        alone("2 beyond the highest long", uleb, 1L << 63, 1);
        LineTable set = new LineTable();
        set.program.raw(2, 99).raw(0, 9, 2).u8(0x8877665544332211L).u1(1);
        alone("the address is", set, 0x8877665544332211L, 1);
        LineTable lines = new LineTable();
        lines.program.raw(2, 9, 3, 100, 3, 0xBF, 0x7F, 15, 14, 1);
        alone("3 again and again, and special codes", lines, 9, 1 - 28 - 65 - 1 - 2);
        LineTable nothing = new LineTable();
        nothing.program.raw(2, 9, 5, 77, 6, 7, 10, 11, 12, 77, 1);
        alone("nothing", nothing, 9, 1);
        LineTable passed = new LineTable();
        passed.program.raw(2, 9, 0, 9, 3, 1, 1, 1, 1, 1, 1, 1, 1, 0, 2, 4, 1, 0, 12, 0x80).raw(new int[11]).u1(1);
        alone("others are passed", passed, 9, 1);
    }

    /** Addresses and lines that go on beyond their highest. */
    private static void wrapping() {
        int[][] codes = {{2, 24}, {8}, {9, 24, 0}, {255}};
        for (int[] code : codes) {
            LineTable t = new LineTable();
            t.program.raw(0, 9, 2).u8(-4).raw(code);
            if (code[0] != 255) {
                t.program.u1(1);
            }
            alone("wraps by " + code[0], t, 20, code[0] == 255 ? 0 : 1);
        }
        LineTable up = new LineTable();
        up.program.raw(2, 9, 3).sleb(Integer.MAX_VALUE - 1).u1(17);
        alone("a line that wraps by a special code", up, 9, Integer.MIN_VALUE);
        LineTable down = new LineTable();
        down.program.raw(2, 9, 3).sleb(Integer.MIN_VALUE).u1(13);
        alone("a line that wraps down", down, 9, Integer.MAX_VALUE - 1);
        for (long by : new long[] {1L << 31, 1L << 32, 1L << 33 | 5, Long.MAX_VALUE, Long.MIN_VALUE, -1}) {
            LineTable far = new LineTable();
            far.program.raw(2, 9, 3).sleb(by).u1(1);
            alone("a line by " + by, far, 9, (int) (1 + by));
        }
    }
}
