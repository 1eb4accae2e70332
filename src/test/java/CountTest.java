/** Promise 6: count. */
public final class CountTest {
    public static void main(String[] args) {
        FrameFinder x = Check.opened("plain", Samples.plain().build());
        int[] due = {7, 1, 6, 5, 4, 2};
        for (int what = 0; what < due.length; what++) {
            Check.same("count(" + what + ")", x.count(what), due[what]);
        }
        int[] others = {6, -1, 7, 100, Integer.MIN_VALUE, Integer.MAX_VALUE};
        for (int what : others) {
            Check.same("count(" + what + ")", x.count(what), -1);
        }
        ranges();
        Check.end();
    }

    /** Units and blocks have ranges too, other entries and those without both ends none. */
    private static void ranges() {
        Dwarf d = new Dwarf();
        d.abbrev(1, 0x11, 1, 0x11, 0x01, 0x12, 0x0B);
        d.abbrev(2, 0x34, 0, 0x11, 0x01, 0x12, 0x0B);
        d.abbrev(3, 0x0B, 0, 0x11, 0x01, 0x12, 0x0B);
        d.abbrev(4, 0x0B, 0, 0x11, 0x01);
        d.abbrev(5, 0x2E, 0, 0x12, 0x0B);
        d.abbrev(6, 0x2E, 0, 0x55, 0x17, 0x11, 0x01, 0x12, 0x0B);
        d.endAbbrevs();
        Bytes e = new Bytes().u1(1).u8(5).u1(6);
        e.u1(2).u8(5).u1(6).u1(3).u8(5).u1(0).u1(4).u8(5).u1(5).u1(3);
        e.u1(6).u4(0).u8(1).u1(1);
        e.u1(6).u4(1).u8(1).u1(1).u1(0);
        d.unit(e);
        d.rnglists.u1(0).u1(4).uleb(1).uleb(2).u1(4).uleb(1).uleb(2).u1(0);
        FrameFinder x = Check.opened("ranges", d.build());
        Check.same("entries", x.count(2), 7);
        Check.same("of a unit, a block and a list of two", x.count(3), 4);
        Check.same("units", x.count(1), 1);
    }
}
