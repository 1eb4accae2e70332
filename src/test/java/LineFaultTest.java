/** Promises 4 and 5 by FAULT 4, lines. */
public final class LineFaultTest {
    public static void main(String[] args) {
        heads();
        firsts();
        names();
        forms();
        ends();
        codes();
        rows();
        headBytes();
        lengthOfTable();
        lengthOfHead();
        howMany();
        formBytes();
        namesAmongOthers();
        everyCode();
        everyExtended();
        Check.end();
    }

    private static byte[] file(Bytes line) {
        Dwarf d = Samples.single(0x10, 0x17, new Bytes().u4(0));
        d.line.all(line);
        d.lineStr.text("ls");
        return d.build();
    }

    private static void table(String what, int fault, LineTable table) {
        Check.fault(what, fault, file(table.build()));
    }

    private static LineTable bent(int which, int to) {
        LineTable t = new LineTable();
        switch (which) {
            case 0: t.version = to; break;
            case 1: t.addressSize = to; break;
            case 2: t.selectorSize = to; break;
            case 3: t.leastStep = to; break;
            case 4: t.operations = to; break;
            case 5: t.lineRange = to; break;
            case 6: t.lineBase = to; break;
            default: t.rowsCount = to;
        }
        return t;
    }

    private static void heads() {
        table("plain", 0, new LineTable());
        int[][] bents = {{0, 4}, {0, 0x105}, {1, 4}, {2, 1}, {3, 0}, {3, 4}, {4, 0}, {4, 2}, {5, 0}};
        for (int[] b : bents) {
            table("bent " + b[0] + " to " + b[1], 4, bent(b[0], b[1]));
        }
        table("line base -128", 0, bent(6, -128));
        table("line range 255", 0, bent(5, 255));
        Check.fault("no section", 4, Samples.single(0x10, 0x17, new Bytes().u4(0)).build());
        Check.fault("no unit", 0, new Elf().add(".debug_line", new Bytes().u4(99)).build());
        Dwarf far = Samples.single(0x10, 0x17, new Bytes().u4(0xFFFFFFFFL));
        far.line.all(new LineTable().build());
        Check.fault("a table far behind", 4, far.build());
        byte[] whole = new LineTable().build().array();
        for (int n = 1; n < whole.length; n++) {
            Bytes cut = new Bytes().u4(n - 4);
            for (int i = 4; i < n; i++) {
                cut.u1(whole[i]);
            }
            Check.fault("cut to " + n, 4, file(n < 4 ? new Bytes().raw(new int[n]) : cut));
        }
        Check.fault("bytes behind the table", 0, file(new LineTable().build().u4(99)));
        Dwarf second = Samples.single(0x10, 0x17, new Bytes().u4(5));
        second.line.u4(0).u1(1).all(new LineTable().build());
        Check.fault("a table at another place", 0, second.build());
    }

    private static void firsts() {
        for (int first : new int[] {0, 1, 9, 10, 13, 200, 201, 255}) {
            LineTable t = new LineTable();
            t.first = first;
            t.operands = new Bytes().raw(new int[Math.max(0, first - 1)]);
            table("first special code " + first, first >= 10 && first <= 200 ? 0 : 4, t);
        }
    }

    private static Bytes names(int forms, int each, long total) {
        Bytes b = new Bytes().u1(forms);
        for (int i = 0; i < forms; i++) {
            b.uleb(i == 0 ? 1 : 2).uleb(i == 0 ? 0x08 : 0x0B);
        }
        b.uleb(total);
        for (int k = 0; k < each; k++) {
            b.text("n");
            for (int i = 1; i < forms; i++) {
                b.u1(7);
            }
        }
        return b;
    }

    private static void files(String what, int fault, Bytes files) {
        LineTable t = new LineTable();
        t.files = files;
        table("files: " + what, fault, t);
    }

    private static void folders(String what, int fault, Bytes folders) {
        LineTable t = new LineTable();
        t.folders = folders;
        table("folders: " + what, fault, t);
    }

    private static void names() {
        files("six forms", 0, names(6, 2, 2));
        files("seven forms", 4, names(7, 2, 2));
        files("30", 0, names(1, 30, 30));
        files("31", 4, names(1, 31, 31));
        files("31 without forms", 4, names(0, 0, 31));
        files("30 without forms", 0, names(0, 0, 30));
        files("many without sign", 4, names(0, 0, -1));
        files("one less than said", 4, names(1, 2, 3));
        folders("six forms", 0, names(6, 2, 2));
        folders("seven forms", 4, names(7, 2, 2));
        folders("31", 0, names(1, 31, 31));
        folders("no forms, however many", 0, names(0, 0, -1));
        folders("no forms, a million", 0, names(0, 0, 1000000));
        folders("many without sign", 4, names(1, 1, -1));
        folders("many beyond an int", 4, names(1, 1, 1L << 32 | 1));
        // Each unit has 30 files of its own.
        Dwarf d = new Dwarf().abbrev(1, 0x11, 0, 0x10, 0x17).endAbbrevs();
        LineTable t = new LineTable();
        t.files = names(0, 0, 30);
        d.line.all(t.build());
        for (int i = 0; i < 4; i++) {
            d.unit(new Bytes().u1(1).u4(0));
        }
        Check.fault("four times 30", 0, d.build());
    }

    private static Bytes one(Bytes value, int... pairs) {
        Bytes b = new Bytes().u1(pairs.length / 2);
        for (int p : pairs) {
            b.uleb(p);
        }
        return b.uleb(1).all(value);
    }

    private static void both(String what, int fault, Bytes names) {
        files(what, fault, names);
        folders(what, fault, names);
    }

    private static void forms() {
        both("all forms", 0, one(new Bytes().text("n").u4(99).u1(1).u2(2).uleb(300), 1, 8, 2, 0x1F, 3, 0x0B, 4, 5, 5, 0x0F));
        both("u2 at the end", 0, one(new Bytes().text("n").u2(0xFFFF), 1, 8, 2, 5));
        both("u2 cut off", 4, one(new Bytes().u1(0x01), 2, 5, 3, 0x0F));
        both("the name in .debug_line_str", 0, one(new Bytes().u4(1), 1, 0x1F));
        both("the name at its last byte", 0, one(new Bytes().u4(2), 1, 0x1F));
        both("the name behind it", 4, one(new Bytes().u4(3), 1, 0x1F));
        both("a second name behind it", 0, one(new Bytes().text("n").u4(3), 1, 8, 1, 0x1F));
        both("a name that is a number", 4, one(new Bytes().u1(3), 1, 0x0B));
        both("a second name that is a number", 0, one(new Bytes().text("n").u1(3), 1, 8, 1, 0x0B));
        both("no name", 0, one(new Bytes().u1(3), 2, 0x0B));
        for (int form : new int[] {0, 0x01, 0x06, 0x07, 0x0D, 0x0E, 0x13, 0x17, 0x18, 0x19, 0x1B, 0x1E, 0x21, 0x23, 0x25}) {
            both("form " + form, 4, one(new Bytes().raw(new int[16]), 2, form));
            both("form " + form + " of nothing", 4, new Bytes().u1(1).uleb(2).uleb(form).uleb(0));
        }
        both("a form beyond an int", 4, new Bytes().u1(1).uleb(2).uleb(1L << 32 | 0x0B).uleb(0));
        both("what beyond an int is no name", 0, new Bytes().u1(1).uleb(1L << 32 | 1).uleb(0x0B).uleb(1).u1(0));
    }

    private static LineTable lengths(int gap, int moreHead, int moreLength) {
        LineTable t = new LineTable();
        t.gap.raw(new int[gap]);
        t.moreHead = moreHead;
        t.moreLength = moreLength;
        t.program.u1(1);
        return t;
    }

    private static void ends() {
        table("a gap", 0, lengths(5, 0, 0));
        table("a head that ends before what was read", 4, lengths(0, -1, 0));
        table("a head that ends with the table", 0, lengths(0, 1, 0));
        table("a head that ends behind the table", 4, lengths(0, 2, 0));
        table("a head of a size without sign", 4, lengths(0, -1000, 0));
        table("a table that ends behind the section", 4, lengths(0, 0, 1));
        table("a table that ends before the code", 0, lengths(0, 0, -1));
        table("a table of a size without sign", 4, lengths(0, 0, -1000));
        // The first byte of the next section would be a code that fits.
        Dwarf next = Samples.single(0x10, 0x17, new Bytes().u4(0));
        next.line.all(lengths(0, 0, 1).build());
        next.symtab.u4(1).u1(2).u1(0).u2(0).u8(0).u8(0);
        next.strtab.text("ab");
        Check.fault("a table that ends in the next section", 4, next.build());
    }

    private static void program(String what, int fault, int... codes) {
        LineTable t = new LineTable();
        t.program.raw(codes);
        table("program: " + what, fault, t);
    }

    private static void codes() {
        program("extended without length", 4, 0);
        program("extended of length 0", 4, 0, 0);
        program("extended of length 0, more behind", 4, 0, 0, 1);
        program("extended without what", 4, 0, 1);
        program("an end", 0, 0, 1, 1);
        program("an end with more", 0, 0, 3, 1, 9, 9);
        program("an end with more than there is", 4, 0, 3, 1, 9);
        program("another", 0, 0, 4, 0x80, 1, 2, 3);
        program("another that does not fit", 4, 0, 4, 0x80, 1, 2);
        program("a length without sign", 4, 0, 0xFF, 0xFF, 0xFF, 0xFF, 0xFF, 0xFF, 0xFF, 0xFF, 0xFF, 1, 0x80, 1);
        program("an address", 0, 0, 9, 2, 1, 2, 3, 4, 5, 6, 7, 8);
        program("an address with more", 0, 0, 10, 2, 1, 2, 3, 4, 5, 6, 7, 8, 9);
        program("an address too short", 4, 0, 8, 2, 1, 2, 3, 4, 5, 6, 7, 8);
        program("an address cut off", 4, 0, 9, 2, 1, 2, 3, 4, 5, 6, 7);
        program("no operands", 0, 1, 6, 7, 8, 10, 11, 13, 255);
        for (int code : new int[] {2, 3, 4, 5, 12}) {
            program("one number behind " + code, 0, code, 0xFF, 1);
            program("none behind " + code, 4, code);
            program("one cut off behind " + code, 4, code, 0x80);
        }
        program("u2", 0, 9, 1, 2);
        program("u2 cut off", 4, 9, 1);
        LineTable t = new LineTable();
        t.first = 15;
        t.operands = new Bytes().raw(9, 9, 9, 9, 9, 9, 9, 9, 9, 9, 9, 9, 3, 0);
        t.program.raw(13, 0x81, 0, 2, 3, 14, 1, 6);
        table("operands that the head tells", 0, t);
        t.program.raw(13, 1, 2);
        table("one operand less", 4, t);
        LineTable low = new LineTable();
        low.first = 10;
        low.operands = new Bytes().raw(new int[9]);
        low.program.raw(12, 10, 11);
        table("12 is special when the first is 10", 0, low);
        Check.same("rows", Check.opened("special", file(low.build())).count(4), 3);
    }

    /** At most 400 in all, ends and what is behind the last one counted. */
    private static void rows() {
        for (int n = 198; n <= 199; n++) {
            Dwarf d = new Dwarf().abbrev(1, 0x11, 0, 0x10, 0x17).endAbbrevs();
            d.unit(new Bytes().u1(1).u4(0)).unit(new Bytes().u1(1).u4(0));
            LineTable t = new LineTable();
            for (int i = 0; i < n; i++) {
                t.program.u1(i % 2 == 0 ? 1 : 20);
            }
            t.program.raw(0, 1, 1).u1(1);
            d.line.all(t.build());
            Dwarf odd = new Dwarf().abbrev(1, 0x11, 0, 0x10, 0x17).endAbbrevs();
            odd.unit(new Bytes().u1(1).u4(0)).unit(new Bytes().u1(1).u4(0)).unit(new Bytes().u1(1).u4(d.line.size()));
            odd.line.all(t.build()).all(new LineTable().row(1, 1).build());
            int all = 2 * (n + 2);
            Check.fault(all + 1 + " rows", all + 1 <= 400 ? 0 : 4, odd.build());
            Check.fault(all + " rows", all <= 400 ? 0 : 4, d.build());
            if (all <= 400) {
                Check.same(all + " rows", Check.opened("rows", d.build()).count(4), all);
            }
        }
    }

    /** Every value of each byte of the head. */
    private static void headBytes() {
        int[] right = {5, 8, 0, 1, 1};
        for (int value = 0; value < 256; value++) {
            for (int which = 0; which < right.length; which++) {
                table("head " + which + " as " + value, value == right[which] ? 0 : 4, bent(which, value));
            }
            table("version with a high byte", value == 0 ? 0 : 4, bent(0, value << 8 | 5));
            table("line range " + value, value == 0 ? 4 : 0, bent(5, value));
            table("line base " + value, 0, bent(6, value));
            table("whether rows count " + value, 0, bent(7, value));
            LineTable t = new LineTable();
            t.first = value;
            t.operands = new Bytes().raw(new int[Math.max(0, value - 1)]);
            table("first special code " + value, value >= 10 && value <= 200 ? 0 : 4, t);
        }
    }

    /** The rows of a table, -1 when the file has a fault. */
    private static int rowsOf(Bytes line) {
        FrameFinder x = Check.loaded(file(line));
        if (Check.tryOpen(x) == -2) {
            Check.same("fault()", x.fault(), 4);
            return -1;
        }
        return x.count(4);
    }

    /** Behind the table stand bytes that would be rows, up to the end of the section. */
    private static void lengthOfTable() {
        int size = new LineTable().build().size();
        for (int more = -size; more <= 12; more++) {
            LineTable t = new LineTable();
            t.program.raw(1, 1, 1, 1, 1);
            t.moreLength = more;
            int due = more < -5 || more > 4 ? -1 : 5 + more;
            Check.same("length and " + more, rowsOf(t.build().raw(1, 1, 1, 1)), due);
        }
    }

    /** What was read of the head ends with a byte that would be a row too. */
    private static void lengthOfHead() {
        int size = new LineTable().build().size();
        for (int more = -size; more <= 12; more++) {
            LineTable t = new LineTable();
            t.files = new Bytes().u1(1).uleb(2).uleb(0x0B).uleb(4).raw(1, 1, 1, 1);
            t.program.raw(1, 1, 1, 1, 1);
            t.moreHead = more;
            int due = more < 0 || more > 5 ? -1 : 5 - more;
            Check.same("length of the head and " + more, rowsOf(t.build()), due);
        }
    }

    /** Each number of forms, of folders and of files. */
    private static void howMany() {
        for (int n = 0; n < 256; n++) {
            both(n + " forms", n <= 6 ? 0 : 4, names(n, n == 0 ? 0 : 2, 2));
        }
        for (int n = 0; n <= 64; n++) {
            files(n + "", n <= 30 ? 0 : 4, names(1, n, n));
            folders(n + "", 0, names(1, n, n));
            both(n + " and one less there", 4, names(1, n, n + 1));
        }
        for (long n : new long[] {128, 256, 256 + 1, 1L << 31, 1L << 32, 1L << 32 | 1, 1L << 63, 1L << 63 | 1, -1}) {
            files(n + " without forms", 4, names(0, 0, n));
            folders(n + " without forms", 0, names(0, 0, n));
            both(n + "", 4, names(1, 1, n));
        }
    }

    /** Every form of what is no name and of the name; as a place each value would be there. */
    private static void formBytes() {
        String known = " 8 31 11 5 15 ";
        for (int form = 0; form < 256; form++) {
            boolean isKnown = known.contains(" " + form + " ");
            Bytes value = form == 0x1F ? new Bytes().u4(0) : form == 0x05 ? new Bytes().u2(0) : new Bytes().u1(0);
            both("what 2 of form " + form, isKnown ? 0 : 4, one(value, 2, form));
            both("what 1 of form " + form, form == 0x08 || form == 0x1F ? 0 : 4, one(value, 1, form));
            Bytes second = new Bytes().text("n").all(value);
            both("a second what 1 of form " + form, isKnown ? 0 : 4, one(second, 1, 8, 1, form));
            both("form " + form + " of none", isKnown ? 0 : 4, new Bytes().u1(1).uleb(2).uleb(form).uleb(0));
        }
        for (int what : new int[] {0, 2, 3, 4, 5, 127, 128, 0x101, 0x2001}) {
            both("what " + what + " is no name", 0, one(new Bytes().u1(0), what, 0x0B));
        }
    }

    /** Only the name must lead to a text, wherever it stands among the others. */
    private static void namesAmongOthers() {
        both("another that leads nowhere", 0, one(new Bytes().u4(99).text("n"), 2, 0x1F, 1, 8));
        both("another behind", 0, one(new Bytes().text("n").u4(99), 1, 8, 2, 0x1F));
        both("the sixth leads nowhere", 4,
            one(new Bytes().raw(1, 2, 3, 4, 5).u4(99), 2, 0x0B, 2, 0x0B, 2, 0x0B, 2, 0x0B, 2, 0x0B, 1, 0x1F));
        both("the sixth is there", 0,
            one(new Bytes().raw(1, 2, 3, 4, 5).u4(0), 2, 0x0B, 2, 0x0B, 2, 0x0B, 2, 0x0B, 2, 0x0B, 1, 0x1F));
        both("far behind", 4, one(new Bytes().u4(0xFFFFFFFFL), 1, 0x1F));
        both("no text of its own", 4, one(new Bytes().u4(0).raw(1, 1), 1, 0x1F, 2, 0x08, 2, 0x0F));
    }

    /** How many bytes stand behind a code, each ULEB having two; -1: the code 0. */
    private static int behind(int code, int first, int[] operands) {
        if (code >= first || code == 1 || code == 6 || code == 7 || code == 8 || code == 10 || code == 11) {
            return 0;
        }
        if (code == 9 || code == 12 || code >= 2 && code <= 5) {
            return 2;
        }
        return code == 0 ? -1 : 2 * operands[code - 1];
    }

    private static void everyCode() {
        for (int first : new int[] {10, 11, 12, 13, 14, 100, 200}) {
            int[] operands = new int[first - 1];
            for (int i = 0; i < operands.length; i++) {
                operands[i] = (i + 2) % 4;
            }
            for (int code = 1; code < 256; code++) {
                LineTable t = new LineTable();
                t.first = first;
                t.operands = new Bytes().raw(operands);
                t.program.u1(code);
                int n = behind(code, first, operands);
                for (int i = 0; i + 1 < n; i += 2) {
                    t.program.raw(0x81, 1);
                }
                int rows = code >= first || code == 1 ? 1 : 0;
                String what = "first " + first + ", code " + code;
                Check.same(what, rowsOf(t.build()), rows);
                t.program.u1(1);
                Check.same(what + " and a row", rowsOf(t.build()), rows + 1);
                if (n == 2) {
                    t.program = new Bytes().u1(code).u1(0x80);
                    table(what + " cut off", 4, t);
                }
            }
        }
    }

    /** Every extended code of every length up to 12. */
    private static void everyExtended() {
        for (int what = 0; what < 256; what++) {
            for (int length = 0; length <= 12; length++) {
                LineTable t = new LineTable();
                t.program.u1(0).uleb(length).u1(what).raw(new int[Math.max(0, length - 1)]);
                // Two rows behind it, so that too many bytes passed are seen as well.
                t.program.raw(1, 1);
                boolean fine = length >= 1 && (what != 2 || length >= 9);
                String name = "extended " + what + " of " + length;
                Check.same(name, rowsOf(t.build()), fine ? (what == 1 ? 3 : 2) : -1);
            }
            LineTable cut = new LineTable();
            cut.program.u1(0).uleb(12).u1(what).raw(new int[10]);
            table("extended " + what + " a byte too long", 4, cut);
        }
    }
}
