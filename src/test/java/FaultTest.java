/** Promise 5: fault, and the order in which the faults are looked for. */
public final class FaultTest {
    public static void main(String[] args) {
        for (int least = 1; least <= 5; least++) {
            for (int more = least; more <= 5; more++) {
                Check.fault("faults " + least + " and " + more, least, bent(least, more));
            }
        }
        Check.fault("none", 0, bent(0, 0));
        acrossUnits();
        latest();
        Check.end();
    }

    /** The plain file with two faults, 0 being none. */
    private static byte[] bent(int one, int other) {
        Dwarf d = new Dwarf();
        d.abbrev(1, 0x11, 0, 0x10, 0x17, 0x03, has(3, one, other) ? 0x0B : 0x08).endAbbrevs();
        Bytes e = new Bytes().u1(1).u4(0).u1(0);
        if (has(2, one, other)) {
            e.u1(1);
        }
        d.unit(e);
        LineTable table = new LineTable();
        table.lineRange = has(4, one, other) ? 0 : 10;
        d.line.all(table.build());
        d.symbol("s", 2, 5, 5);
        if (has(5, one, other)) {
            d.symtab.u1(0);
        }
        byte[] file = d.build();
        if (has(1, one, other)) {
            file[6] = 0;
        }
        return file;
    }

    private static boolean has(int fault, int one, int other) {
        return fault == one || fault == other;
    }

    /** A fault of a later unit counts before one of another kind in an earlier unit. */
    private static void acrossUnits() {
        Dwarf d = new Dwarf();
        d.abbrev(1, 0x11, 0, 0x03, 0x0B).abbrev(2, 0x11, 0, 0x10, 0x17).endAbbrevs();
        d.unit(new Bytes().u1(1).u1(0)).unit(new Bytes().u1(9));
        Check.fault("values before units", 2, d.build());
        Dwarf l = new Dwarf();
        l.abbrev(1, 0x11, 0, 0x03, 0x0B).abbrev(2, 0x11, 0, 0x10, 0x17).endAbbrevs();
        l.unit(new Bytes().u1(2).u4(99)).unit(new Bytes().u1(1).u1(0));
        Check.fault("lines before values", 3, l.build());
    }

    private static void latest() {
        FrameFinder x = new FrameFinder();
        Check.same("before", x.fault(), 0);
        Check.load(x, bent(4, 4));
        Check.same("before open()", x.fault(), 0);
        Check.same("open()", Check.tryOpen(x), -2);
        Check.same("behind open()", x.fault(), 4);
        x.clear();
        Check.same("behind clear()", x.fault(), 4);
        Check.load(x, bent(0, 0));
        Check.same("behind load()", x.fault(), 4);
        Check.same("open() of a better one", Check.tryOpen(x), 1);
        Check.same("behind that", x.fault(), 0);
        Check.yes("load", x.load(1, 0));
        Check.same("behind load() of more", x.fault(), 0);
    }
}
