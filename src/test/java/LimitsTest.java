/** Terms: each "at most" of the tables, at the limit with its last one in use, and one beyond it. */
public final class LimitsTest {
    public static void main(String[] args) {
        sections();
        units();
        abbreviations();
        abbreviationsOfUnits();
        attributes();
        entries();
        entriesOfUnits();
        open();
        openAgain();
        ranges();
        rangesOfEntries();
        files();
        rows();
        rowsOfUnits();
        symbols();
        origins();
        blocks();
        most();
        Check.end();
    }

    private static final Bytes SYMBOL = new Bytes().u4(0).u1(2).u1(0).u2(0).u8(5).u8(1);

    private static void sections() {
        for (int n = 23; n <= 25; n++) {
            Elf elf = new Elf();
            for (int i = 0; i < n - 4; i++) {
                elf.add("other", new Bytes());
            }
            elf.add(".strtab", new Bytes().text("last")).add(".symtab", SYMBOL);
            Check.fault(n + " sections", n <= 24 ? 0 : 1, elf.build());
            if (n <= 24) {
                Check.frames(n + " sections", elf.build(), 5, "last@:0");
            }
        }
    }

    /** Units of one function each, with lines of their own. */
    private static void units() {
        Dwarf d = Samples.tables();
        for (int n = 1; n <= 5; n++) {
            Bytes e = new Bytes().u1(Samples.UNIT).u4(d.line.size());
            d.unit(Samples.function(e, "f" + n, 16 * n, 16).u1(0).u1(0));
            d.line.all(new LineTable().row(16 * n, 100 + n).end(16 * n + 16).build());
            Check.fault(n + " units", n <= 4 ? 0 : 2, d.build());
            if (n <= 4) {
                Check.same(n + " units", Check.opened("units", d.build()).count(1), n);
                Check.frames(n + " units", d.build(), 16 * n, "f" + n + "@b.h:" + (100 + n));
            }
        }
    }

    /** Abbreviations of 12 attributes each; the last one has the name in the last of them. */
    private static Dwarf many(int abbreviations, int attributes) {
        Dwarf d = new Dwarf().abbrev(1, 0x11, 1);
        long[] pairs = new long[2 * attributes];
        for (int n = 2; n <= abbreviations; n++) {
            for (int i = 0; i < attributes; i++) {
                pairs[2 * i] = 0x7E;
                pairs[2 * i + 1] = 0x19;
            }
            System.arraycopy(new long[] {0x11, 0x01, 0x12, 0x0B}, 0, pairs, 0, 4);
            pairs[2 * attributes - 2] = 0x03;
            pairs[2 * attributes - 1] = 0x08;
            d.abbrev(n, 0x2E, 0, pairs);
        }
        return d.endAbbrevs();
    }

    private static void abbreviations() {
        for (int n = 39; n <= 42; n++) {
            Dwarf d = many(n, 12);
            d.unit(new Bytes().u1(1).u1(n).u8(5).u1(1).text("last").u1(2).u8(6).u1(1).text("first").u1(0));
            Check.fault(n + " abbreviations", n <= 40 ? 0 : 2, d.build());
            if (n <= 40) {
                Check.frames(n + " abbreviations", d.build(), 5, "last@:0");
                Check.frames(n + " abbreviations", d.build(), 6, "first@:0");
            }
        }
        // The last of the most abbreviations has one attribute too many.
        Dwarf d = new Dwarf();
        for (int n = 1; n <= 40; n++) {
            d.abbrev(n, 0x11, 0);
        }
        d.endAbbrevs();
        Check.fault("40 abbreviations of none", 0, d.unit(new Bytes().u1(40)).build());
        for (int n = 12; n <= 14; n++) {
            Dwarf last = new Dwarf();
            for (int i = 1; i < 40; i++) {
                last.abbrev(i, 0x11, 0);
            }
            long[] pairs = new long[2 * n];
            java.util.Arrays.fill(pairs, 0x19);
            last.abbrev(40, 0x11, 0, pairs).endAbbrevs();
            Check.fault(n + " attributes of the last", n <= 12 ? 0 : 2, last.unit(new Bytes().u1(40)).build());
        }
    }

    /** Two units may have 40 each, in tables of their own. */
    private static void abbreviationsOfUnits() {
        for (int n = 40; n <= 41; n++) {
            Dwarf d = many(40, 3);
            int second = d.abbrev.size();
            d.abbrev.all(many(n, 3).abbrev);
            d.unit(0, new Bytes().u1(1).u1(40).u8(5).u1(1).text("a").u1(0));
            d.unit(second, new Bytes().u1(1).u1(n).u8(6).u1(1).text("b").u1(0));
            Check.fault("40 and " + n, n <= 40 ? 0 : 2, d.build());
            if (n <= 40) {
                Check.frames("40 and 40", d.build(), 5, "a@:0");
                Check.frames("40 and 40", d.build(), 6, "b@:0");
            }
        }
    }

    private static void attributes() {
        for (int n = 3; n <= 20; n++) {
            Dwarf d = many(2, n);
            d.unit(new Bytes().u1(1).u1(2).u8(5).u1(1).text("name").u1(0));
            Check.fault(n + " attributes", n <= 12 ? 0 : 2, d.build());
            if (n <= 12) {
                Check.frames(n + " attributes", d.build(), 5, "name@:0");
            }
            // With values that stand in the abbreviation.
            long[] pairs = new long[3 * n];
            for (int i = 0; i < n; i++) {
                pairs[3 * i] = 0x7E;
                pairs[3 * i + 1] = 0x21;
                pairs[3 * i + 2] = -i;
            }
            Dwarf implicit = new Dwarf().abbrev(1, 0x11, 0, pairs).endAbbrevs().unit(new Bytes().u1(1));
            Check.fault(n + " attributes of form 0x21", n <= 12 ? 0 : 2, implicit.build());
        }
    }

    private static void entries() {
        for (int n = 199; n <= 202; n++) {
            Dwarf d = Samples.tables();
            Bytes e = new Bytes().u1(Samples.BARE_UNIT);
            for (int i = 0; i < n - 2; i++) {
                e.u1(Samples.BARE_BLOCK).u1(0);
            }
            d.unit(Samples.function(e, "last", 5, 1).u1(0).u1(0));
            Check.fault(n + " entries", n <= 200 ? 0 : 2, d.build());
            if (n <= 200) {
                Check.same(n + " entries", Check.tryOpen(Check.loaded(d.build())), n);
                Check.same(n + " entries", Check.opened("entries", d.build()).count(2), n);
                Check.frames(n + " entries", d.build(), 5, "last@:0");
            }
        }
    }

    private static void entriesOfUnits() {
        for (int n = 49; n <= 51; n++) {
            Dwarf d = new Dwarf().abbrev(1, 0x11, 1).abbrev(2, 0x34, 0).abbrev(3, 0x2E, 0, 0x11, 0x01, 0x12, 0x19, 0x03, 0x08).endAbbrevs();
            for (int unit = 1; unit <= 4; unit++) {
                Bytes e = new Bytes().u1(1);
                for (int i = 0; i < (unit == 4 ? n : 50) - 2; i++) {
                    e.u1(2);
                }
                d.unit(e.u1(3).u8(unit).text("u" + unit).u1(0));
            }
            Check.fault(150 + n + " entries of four units", n <= 50 ? 0 : 2, d.build());
            if (n <= 50) {
                Check.frames(150 + n + " entries of four units", d.build(), 4, "u4@:0");
            }
        }
        // No room for the unit's own entry.
        Dwarf d = new Dwarf().abbrev(1, 0x11, 1).abbrev(2, 0x34, 0).abbrev(3, 0x11, 0).endAbbrevs();
        Bytes e = new Bytes().u1(1);
        for (int i = 0; i < 199; i++) {
            e.u1(2);
        }
        d.unit(e.u1(0));
        Check.fault("200 entries of one unit", 0, d.build());
        Check.fault("and one of another", 2, d.unit(new Bytes().u1(3)).build());
    }

    /** Entries in one another, the innermost being a function with children or without. */
    private static void open() {
        for (int n = 14; n <= 18; n++) {
            for (int children = 0; children <= 1; children++) {
                Dwarf d = new Dwarf().abbrev(1, 0x11, 1).abbrev(2, 0x39, 1).abbrev(3, 0x2E, children, 0x11, 0x01, 0x12, 0x19).endAbbrevs();
                Bytes e = new Bytes().u1(1);
                for (int i = 1; i < n - children; i++) {
                    e.u1(2);
                }
                e.u1(3).u8(5).raw(new int[n]);
                Check.fault(n + " open, children " + children, n <= 16 ? 0 : 2, d.unit(e).build());
                if (n <= 16) {
                    Check.frames(n + " open", d.build(), 5, "@:0");
                }
            }
        }
    }

    /** What has ended is not open any more, nor is what another unit had open. */
    private static void openAgain() {
        for (int n = 10; n <= 11; n++) {
            Dwarf d = new Dwarf().abbrev(1, 0x11, 1).abbrev(2, 0x39, 1).endAbbrevs();
            Bytes e = new Bytes().u1(1);
            for (int i = 0; i < 15; i++) {
                e.u1(2);
            }
            e.raw(new int[10]);
            for (int i = 0; i < n; i++) {
                e.u1(2);
            }
            e.raw(new int[6 + n]);
            Check.fault("6 and " + n + " open", n <= 10 ? 0 : 2, d.unit(e).build());
            if (n <= 10) {
                Check.fault("in two units", 0, d.unit(e).build());
            }
        }
    }

    private static Dwarf list(int n) {
        Dwarf d = new Dwarf().abbrev(1, 0x11, 1).abbrev(2, 0x2E, 0, 0x55, 0x17).endAbbrevs();
        d.unit(new Bytes().u1(1).u1(2).u4(0).u1(0));
        for (int i = 0; i < n; i++) {
            d.rnglists.u1(4).uleb(i < n - 1 ? 1 : 5).uleb(i < n - 1 ? 2 : 6);
        }
        d.rnglists.u1(0);
        return d;
    }

    private static void ranges() {
        for (int n = 299; n <= 302; n++) {
            Check.fault(n + " ranges", n <= 300 ? 0 : 3, list(n).build());
            if (n <= 300) {
                Check.same(n + " ranges", Check.opened("ranges", list(n).build()).count(3), n);
                Check.frames(n + " ranges", list(n).build(), 5, "@:0");
            }
        }
        // What is no range needs no room: bases, however many.
        Dwarf bases = new Dwarf().abbrev(1, 0x11, 1).abbrev(2, 0x2E, 0, 0x55, 0x17).endAbbrevs();
        bases.unit(new Bytes().u1(1).u1(2).u4(0).u1(0));
        for (int i = 0; i < 400; i++) {
            bases.rnglists.u1(1).uleb(0);
        }
        bases.rnglists.u1(4).uleb(0).uleb(1).u1(0);
        bases.addr.u8(5);
        Check.frames("400 bases", bases.build(), 5, "@:0");
    }

    /** Ranges by low and high, and one list that several entries have. */
    private static void rangesOfEntries() {
        for (int n = 49; n <= 51; n++) {
            Dwarf d = new Dwarf().abbrev(1, 0x11, 1).abbrev(2, 0x2E, 0, 0x55, 0x17).abbrev(3, 0x0B, 0, 0x11, 0x1B, 0x12, 0x19);
            d.abbrev(4, 0x2E, 0, 0x11, 0x1B, 0x12, 0x19).endAbbrevs();
            Bytes e = new Bytes().u1(1);
            for (int i = 0; i < 25; i++) {
                e.u1(2).u4(0);
            }
            for (int i = 0; i < n - 1; i++) {
                e.u1(3).uleb(0);
            }
            d.unit(e.u1(4).uleb(1).u1(0));
            for (int i = 0; i < 10; i++) {
                d.rnglists.u1(4).uleb(1).uleb(2);
            }
            d.rnglists.u1(0);
            d.addr.u8(1).u8(5);
            Check.fault("250 and " + n + " ranges", n <= 50 ? 0 : 3, d.build());
            if (n <= 50) {
                Check.same("250 and " + n + " ranges", Check.opened("ranges", d.build()).count(3), 250 + n);
                Check.frames("250 and " + n + " ranges", d.build(), 5, "@:0");
            }
        }
    }

    private static void files() {
        for (int n = 29; n <= 32; n++) {
            LineTable t = new LineTable();
            t.files = new Bytes().u1(1).uleb(1).uleb(8).uleb(n);
            for (int i = 0; i < n; i++) {
                t.files.text("f" + i);
            }
            t.program.u1(4).uleb(n - 1);
            t.row(5, 1).row(6, 2);
            t.program.u1(4).uleb(n).u1(2).u1(1).u1(1);
            t.end(9);
            Dwarf d = Samples.tables();
            d.unit(Samples.function(new Bytes().u1(Samples.UNIT).u4(0), "f", 5, 4).u1(0).u1(0));
            d.line.all(t.build());
            Check.fault(n + " files", n <= 30 ? 0 : 4, d.build());
            if (n <= 30) {
                Check.frames(n + " files", d.build(), 5, "f@f" + (n - 1) + ":1");
                Check.frames("file " + n + " of " + n, d.build(), 7, "f@:2");
            }
        }
    }

    /** Rows by each way to make one; the last of them but the end is found. */
    private static void rows() {
        for (int way = 0; way < 3; way++) {
            for (int n = 399; n <= 402; n++) {
                LineTable t = new LineTable();
                for (int i = 0; i < n - 2; i++) {
                    t.program.raw(way == 0 ? new int[] {1} : way == 1 ? new int[] {16} : new int[] {0, 1, 1});
                }
                t.row(5, 44).end(9);
                Dwarf d = Samples.tables();
                d.unit(Samples.function(new Bytes().u1(Samples.UNIT).u4(0), "f", 5, 4).u1(0).u1(0));
                d.line.all(t.build());
                String what = n + " rows by way " + way;
                Check.fault(what, n <= 400 ? 0 : 4, d.build());
                if (n <= 400) {
                    Check.same(what, Check.opened(what, d.build()).count(4), n);
                    Check.frames(what, d.build(), 5, "f@b.h:44");
                }
            }
        }
    }

    /** The rows of all units are counted together, each table as often as a unit has it. */
    private static void rowsOfUnits() {
        for (int n = 100; n <= 101; n++) {
            Dwarf d = new Dwarf().abbrev(1, 0x11, 0, 0x10, 0x17).endAbbrevs();
            LineTable t = new LineTable();
            for (int i = 0; i < n; i++) {
                t.program.u1(1);
            }
            d.line.all(t.build());
            for (int units = 1; units <= 4; units++) {
                d.unit(new Bytes().u1(1).u4(0));
                Check.fault(units + " times " + n + " rows", units * n <= 400 ? 0 : 4, d.build());
                if (units * n <= 400) {
                    Check.same(units + " times " + n, Check.opened("rows", d.build()).count(4), units * n);
                }
            }
        }
    }

    private static void symbols() {
        for (int n = 59; n <= 62; n++) {
            Dwarf d = new Dwarf();
            for (int i = 0; i < n - 1; i++) {
                d.symtab.u4(0).u1(2).u1(0).u2(0).u8(100 + i).u8(1);
            }
            d.symtab.u4(1).u1(2).u1(0).u2(0).u8(5).u8(1);
            d.strtab.text("").text("last");
            Check.fault(n + " symbols", n <= 60 ? 0 : 5, d.build());
            if (n <= 60) {
                Check.same(n + " symbols", Check.opened("symbols", d.build()).count(5), n);
                Check.frames(n + " symbols", d.build(), 5, "last@:0");
            }
        }
    }

    /** A function whose origins have origins, the last of which alone has a name. */
    private static void origins() {
        for (int n = 1; n <= 12; n++) {
            Dwarf d = new Dwarf().abbrev(1, 0x11, 1).abbrev(2, 0x2E, 0, 0x31, 0x13, 0x11, 0x01, 0x12, 0x0B);
            d.abbrev(3, 0x2E, 0, 0x03, 0x08).abbrev(4, 0x1D, 0, 0x31, 0x13).endAbbrevs();
            Bytes e = new Bytes().u1(1);
            for (int i = 1; i < n; i++) {
                e.u1(4).u4(13 + 5 * i);
            }
            e.u1(3).text("n");
            d.unit(e.u1(2).u4(13).u8(5).u1(1).u1(0));
            Check.frames(n + " origins", d.build(), 5, n <= 8 ? "n@:0" : "@:0");
        }
    }

    /** As many blocks between a function and what is put in as can be open. */
    private static void blocks() {
        for (int bare = 0; bare <= 14; bare++) {
            Dwarf d = new Dwarf().abbrev(1, 0x11, 1).abbrev(2, 0x2E, 1, 0x11, 0x01, 0x12, 0x0B).abbrev(3, 0x0B, 1);
            d.abbrev(4, 0x0B, 1, 0x11, 0x01, 0x12, 0x0B).abbrev(5, 0x1D, 0, 0x11, 0x01, 0x12, 0x0B, 0x59, 0x0B).endAbbrevs();
            Bytes e = new Bytes().u1(1).u1(2).u8(0).u1(100);
            for (int i = 0; i < 14; i++) {
                if (i < bare) {
                    e.u1(3);
                } else {
                    e.u1(4).u8(i).u1(50 - 2 * i);
                }
            }
            d.unit(e.u1(5).u8(0).u1(100).u1(7).raw(new int[16]));
            // The last block, from 13 to 37, lies in all the others.
            for (int address : new int[] {0, 12, 13, 36, 37, 99}) {
                boolean held = bare == 14 || address >= 13 && address < 37;
                Check.frames(bare + " bare blocks at " + address, d.build(), address, held ? "@:0 @:7" : "@:0");
            }
        }
    }

    /** Everything at its limit in one file of the most bytes that hold it. */
    private static void most() {
        Dwarf d = new Dwarf().abbrev(1, 0x11, 1, 0x10, 0x17, 0x55, 0x17).abbrev(2, 0x2E, 0, 0x11, 0x1B, 0x12, 0x19).endAbbrevs();
        for (int unit = 0; unit < 4; unit++) {
            Bytes e = new Bytes().u1(1).u4(0).u4(0);
            for (int i = 0; i < 49; i++) {
                e.u1(2).uleb(i < 48 ? 0 : unit + 1);
            }
            d.unit(e.u1(0));
        }
        for (int i = 0; i < 26; i++) {
            d.rnglists.u1(4).uleb(0).uleb(0);
        }
        d.rnglists.u1(0);
        d.addr.u8(0x100).u8(1).u8(2).u8(3).u8(4);
        LineTable t = new LineTable();
        t.files = new Bytes().u1(0).uleb(30);
        for (int i = 0; i < 98; i++) {
            t.program.u1(1);
        }
        d.line.all(t.row(0, 9).end(9).build());
        FrameFinder x = Check.opened("most", d.build());
        int[] due = {7, 4, 200, 300, 400, 0};
        for (int what = 0; what < due.length; what++) {
            Check.same("most: count(" + what + ")", x.count(what), due[what]);
        }
        Check.same("most: the last", Check.frames(x, 4), "@:9");
        Check.same("most: another", Check.frames(x, 5), "");
    }
}
