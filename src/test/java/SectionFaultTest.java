/** Promises 4 and 5 by FAULT 1, sections. */
public final class SectionFaultTest {
    private static final int HEADERS_AT = 0x28;

    public static void main(String[] args) {
        head();
        headers();
        places();
        names();
        chosen();
        headBytes();
        ends();
        smallest();
        tenNames();
        inAnotherName();
        usedObject();
        atTheEnd();
        Check.end();
    }

    private static byte[] put(byte[] file, int at, int n, long value) {
        byte[] bent = file.clone();
        for (int i = 0; i < n; i++) {
            bent[at + i] = (byte) (value >>> (8 * i));
        }
        return bent;
    }

    private static int get(byte[] file, int at) {
        return file[at] & 0xFF | (file[at + 1] & 0xFF) << 8;
    }

    private static void head() {
        byte[] file = Samples.plain().build();
        for (int i = 0; i < 7; i++) {
            Check.fault("byte " + i, 1, put(file, i, 1, file[i] + 1));
        }
        Check.fault("byte 7 is not looked at", 0, put(file, 7, 1, 99));
        byte[] least = new byte[64];
        System.arraycopy(file, 0, least, 0, 64);
        Check.fault("no room for headers", 1, least);
        byte[] less = new byte[63];
        System.arraycopy(file, 0, less, 0, 63);
        Check.fault("63 bytes", 1, less);
        Check.fault("size of a header", 1, put(file, 0x3A, 2, 65));
        Check.fault("size of a header, high", 1, put(file, 0x3A, 2, 64 + 256));
        Check.fault("no sections", 1, put(file, 0x3C, 2, 0));
        Check.fault("which has the names", 1, put(file, 0x3E, 2, 7));
        Check.fault("which has the names, high", 1, put(file, 0x3E, 2, 256));
        Check.fault("which has the names, high byte", 1, put(file, 0x3E, 2, 0x106));
        Check.fault("a section that has no names", 1, put(file, 0x3E, 2, 0));
        Check.same("one section", Check.opened("one", one()).count(0), 1);
        Elf most = new Elf();
        for (int i = 0; i < 22; i++) {
            most.add("s", new Bytes());
        }
        Check.fault("24 sections", 0, most.build());
        Check.same("count(0)", Check.opened("24", most.build()).count(0), 24);
        Check.fault("25 sections", 1, most.add("s", new Bytes()).build());
    }

    /** The section of names alone. */
    private static byte[] one() {
        byte[] two = new Elf().build();
        int second = get(two, HEADERS_AT) + 64;
        return put(put(put(two, HEADERS_AT, 8, second), 0x3C, 2, 1), 0x3E, 2, 0);
    }

    private static void headers() {
        byte[] file = Samples.plain().build();
        int at = get(file, HEADERS_AT);
        Check.fault("headers one too late", 1, put(file, HEADERS_AT, 8, at + 1));
        Check.fault("headers behind the file", 1, put(file, HEADERS_AT, 8, file.length + 1));
        Check.fault("headers that wrap", 1, put(file, HEADERS_AT, 8, -64));
        Check.fault("headers that wrap to fit", 1, put(file, HEADERS_AT, 8, -1));
        Check.fault("headers far behind", 1, put(file, HEADERS_AT, 8, 1L << 32 | at));
        Check.fault("headers farther behind", 1, put(file, HEADERS_AT, 8, 1L << 56 | at));
        byte[] less = new byte[file.length - 1];
        System.arraycopy(file, 0, less, 0, less.length);
        Check.fault("a byte less", 1, less);
        byte[] more = new byte[file.length + 1];
        System.arraycopy(file, 0, more, 0, file.length);
        Check.fault("a byte more", 0, more);
    }

    private static void places() {
        byte[] file = Samples.plain().build();
        int first = get(file, HEADERS_AT) + 64;
        Check.fault("begins behind the file", 1, put(file, first + 24, 8, file.length + 1));
        Check.fault("ends behind the file", 1, put(file, first + 32, 8, file.length));
        Check.fault("begins at a wrapped place", 1, put(file, first + 24, 8, -8));
        Check.fault("has a wrapped size", 1, put(file, first + 32, 8, -8));
        Check.fault("begins at -1", 1, put(put(file, first + 24, 8, -1), first + 32, 8, 1));
        Check.fault("begins at -1, of no bytes", 1, put(put(file, first + 24, 8, -1), first + 32, 8, 0));
        Check.fault("has the size -1", 1, put(file, first + 32, 8, -1));
        Check.fault("has a size of the highest byte", 1, put(file, first + 32, 8, 1L << 56 | get(file, first + 32)));
        Check.fault("begins at a place of the highest byte", 1, put(file, first + 24, 8, 1L << 56 | get(file, first + 24)));
        Check.fault("the first begins at 0", 0, put(file, first - 64 + 24, 8, 0));
        Check.fault("the first lies beyond", 1, put(file, first - 64 + 24, 8, file.length + 1));
        Check.fault("the first has no name", 1, put(file, first - 64, 4, 0xFFFF));
        byte[] behind = put(put(file, first + 24, 8, file.length), first + 32, 8, 0);
        Check.fault("of no bytes at the end of the file: no abbreviations", 2, behind);
        byte[] beyond = put(put(file, first + 24, 8, file.length + 1), first + 32, 8, 0);
        Check.fault("of no bytes beyond the end of the file", 1, beyond);
        Check.fault("of kind 8 it lies nowhere", 2, put(put(file, first + 24, 8, -8), first + 4, 4, 8));
        Check.fault("a kind whose lowest byte is 8", 1, put(put(file, first + 24, 8, -8), first + 4, 4, 0x108));
    }

    private static void names() {
        Elf elf = Samples.plain().elf();
        byte[] file = elf.build();
        int last = get(file, HEADERS_AT) + 64 * 6;
        int size = get(file, last + 32);
        Check.fault("the last name without an end", 1, put(file, last + 32, 8, size - 1));
        Check.fault("a name at the last byte", 0, put(file, last, 4, size - 1));
        Check.fault("a name behind the names", 1, put(file, last, 4, size));
        Check.fault("a name far behind", 1, put(file, last, 4, 0xFFFFFFFFL));
        elf.namesKind = 8;
        Check.fault("names of kind 8", 1, elf.build());
        Elf unnamed = new Elf().add("x", 8, new Bytes());
        byte[] kind8 = unnamed.build();
        int second = get(kind8, HEADERS_AT) + 64;
        Check.fault("the name of a section of kind 8", 1, put(kind8, second, 4, 0xFFFF));
    }

    /** The first section of each name counts, even when it is of kind 8. */
    private static void chosen() {
        Bytes two = new Bytes().u4(0).u1(2).u1(0).u2(0).u8(0x10).u8(0x10).u4(0).u1(2).u1(0).u2(0).u8(0x20).u8(0x10);
        Bytes one = new Bytes().u4(0).u1(2).u1(0).u2(0).u8(0x10).u8(0x10);
        Elf first = new Elf().add(".symtab", one).add(".symtab", two).add(".strtab", new Bytes().u1(0));
        Check.same("the first", Check.opened("first", first.build()).count(5), 1);
        Elf empty = new Elf().add(".symtab", 8, one).add(".symtab", two).add(".strtab", new Bytes().u1(0));
        Check.same("kind 8", Check.opened("kind 8", empty.build()).count(5), 0);
        Elf other = new Elf().add(".symta", one).add(".symtab2", one).add("symtab", one).add(".Symtab", one);
        other.add("xsymtab", one).add(".symtax", one);
        Check.same("other names", Check.opened("others", other.build()).count(5), 0);
        Elf absent = new Elf().add(".symtab", one);
        Check.fault("no .strtab", 5, absent.build());
        Elf names = new Elf().add(".symtab", one);
        names.namesTitle = ".strtab";
        Check.same("names that are looked at", Check.opened("names", names.build()).count(5), 1);
    }

    /** Every value of the bytes of the head that must be just so. */
    private static void headBytes() {
        int[] places = {0, 1, 2, 3, 4, 5, 6, 0x3A, 0x3B, 0x3D, 0x3F};
        for (int at : places) {
            for (int value = 0; value < 256; value++) {
                int due = value == (Samples.ALL[at] & 0xFF) ? 0 : 1;
                Check.fault("byte " + at + " as " + value, due, put(Samples.ALL, at, 1, value));
            }
        }
        Check.fault("headers of 63", 1, put(Samples.ALL, 0x3A, 2, 63));
        int total = get(Samples.ALL, 0x3C);
        for (int more : new int[] {25, 26, 255, 256, 0x100 + total, 0xFFFF}) {
            Check.fault(more + " sections", 1, put(Samples.ALL, 0x3C, 2, more));
        }
        for (int which = total; which < 30; which++) {
            Check.fault("names in " + which, 1, put(Samples.ALL, 0x3E, 2, which));
        }
    }

    /** A section may end where the file does, but not behind. */
    private static void ends() {
        byte[] file = Samples.ALL;
        int headers = get(file, HEADERS_AT);
        for (int i = 1; i < get(file, 0x3C) - 1; i++) {
            int header = headers + 64 * i;
            long begin = get(file, header + 24);
            for (int kind : new int[] {0, 1, 3, 7, 9, 0x808}) {
                byte[] bent = put(file, header + 4, 4, kind);
                Check.fault("section " + i + " of kind " + kind, 0, bent);
                Check.fault("it ends behind", 1, put(bent, header + 32, 8, file.length - begin + 1));
                Check.fault("it wraps", 1, put(bent, header + 32, 8, -begin));
                Check.fault("it begins behind", 1, put(bent, header + 24, 8, file.length + 1));
            }
            byte[] nowhere = put(put(file, header + 24, 8, -1), header + 32, 8, -1);
            Check.fault("section " + i + " nowhere", 1, nowhere);
            Check.fault("of kind 8", DUE[i - 1], put(nowhere, header + 4, 4, 8));
        }
        // .debug_str and .debug_abbrev may have more behind what is used of them.
        for (int i : new int[] {1, 3}) {
            int header = headers + 64 * i;
            long begin = get(file, header + 24);
            Check.fault("section " + i + " up to the end of the file", 0, put(file, header + 32, 8, file.length - begin));
        }
    }

    /** 80 bytes in which the head and a header lie over one another; 79 are too few for it. */
    private static void smallest() {
        Bytes head = new Bytes().raw(0x7F, 0x45, 0x4C, 0x46, 2, 1, 1, 0).u8(0).u4(0).u4(1).u8(0).u8(0).u8(16);
        head.u8(1).u2(0).u2(64).u2(1).u2(0).u8(0).u8(0);
        Check.same("its size", head.size(), 80);
        Check.fault("80 bytes", 0, head.array());
        Check.same("its sections", Check.opened("80", head.array()).count(0), 1);
        for (int n = 0; n < 80; n++) {
            Check.fault(n + " bytes", 1, java.util.Arrays.copyOf(head.array(), n));
        }
    }

    /** The fault that is due when a section of Samples.ALL is empty, in the order of the titles. */
    private static final int[] DUE = {2, 0, 3, 3, 3, 3, 3, 4, 0, 5};

    private static Elf without(int which) {
        Dwarf d = Samples.all();
        Elf elf = new Elf();
        for (int i = 0; i < DUE.length; i++) {
            if (i != which) {
                elf.add(Dwarf.TITLES[i], d.parts()[i]);
            }
        }
        return elf;
    }

    private static void asEmpty(String what, int which, Elf elf) {
        String all = what + ", " + Dwarf.TITLES[which];
        byte[] file = elf.build();
        Check.fault(all, DUE[which], file);
        if (DUE[which] == 0) {
            FrameFinder x = Check.opened(all, file);
            Check.same(all + ": units", x.count(1), which == 1 ? 0 : 1);
            Check.same(all + ": symbols", x.count(5), which == 8 ? 0 : 1);
        }
    }

    private static void tenNames() {
        for (int i = 0; i < DUE.length; i++) {
            String title = Dwarf.TITLES[i];
            Bytes bytes = Samples.all().parts()[i];
            asEmpty("not there", i, without(i));
            asEmpty("of no bytes", i, without(i).add(title, new Bytes()));
            asEmpty("of kind 8", i, without(i).add(title, 8, bytes));
            asEmpty("of kind 8 at first", i, without(i).add(title, 8, bytes).add(title, bytes));
            asEmpty("of no bytes at first", i, without(i).add(title, new Bytes()).add(title, bytes));
            asEmpty("longer", i, without(i).add(title + "x", bytes));
            asEmpty("shorter", i, without(i).add(title.substring(0, title.length() - 1), bytes));
            asEmpty("without its dot", i, without(i).add(title.substring(1), bytes));
            asEmpty("capital", i, without(i).add(title.toUpperCase(), bytes));
            for (int k = 0; k < title.length(); k++) {
                char other = (char) (title.charAt(k) ^ 1);
                asEmpty("other " + k, i, without(i).add(title.substring(0, k) + other + title.substring(k + 1), bytes));
            }
            Elf first = without(i).add(title, bytes).add(title, new Bytes()).add(title, 8, bytes).add(title, new Bytes().u1(9));
            Check.frames("the first counts, " + title, first.build(), 0x1010, "in@x.c:7 fun@x.c:5");
            Check.frames("the first counts, " + title, first.build(), 0x300F, "s@:0");
        }
    }

    /** A name may stand in another one's end. */
    private static void inAnotherName() {
        Bytes one = new Bytes().u4(0).u1(2).u1(0).u2(0).u8(0x10).u8(0x10);
        byte[] file = new Elf().add(".x.symtab", one).add(".strtab", new Bytes().u1(0)).build();
        Check.same("as it stands", Check.opened("whole", file).count(5), 0);
        int header = get(file, HEADERS_AT) + 64;
        byte[] bent = put(file, header, 4, get(file, header) + 2);
        Check.same("its end", Check.opened("end", bent).count(5), 1);
    }

    /** What an object has read before lends nothing to a file that has less. */
    private static void usedObject() {
        // Its section 2 lies where the small file has its names.
        Elf many = new Elf().add("s", new Bytes()).add("s", new Bytes().raw(new int[40]));
        for (int i = 0; i < 20; i++) {
            many.add("s", new Bytes().text("s"));
        }
        byte[] small = new Elf().build();
        byte[][] bents = {put(small, 0x3E, 2, 2), put(small, HEADERS_AT, 8, -1), put(small, HEADERS_AT, 8, 3000), new byte[0]};
        for (int i = 0; i < bents.length; i++) {
            FrameFinder x = Check.opened("many", many.build());
            x.clear();
            Check.load(x, small);
            Check.same("open() of a small one", Check.tryOpen(x), 0);
            x.clear();
            Check.load(x, bents[i]);
            Check.same("open() behind it, " + i, Check.tryOpen(x), -2);
            Check.same("fault() behind it, " + i, x.fault(), 1);
        }
    }

    /** A file of 3,000 bytes that ends with a section; then one whose section there lacks its last byte. */
    private static void atTheEnd() {
        int[] cut = {2, 2, 3, 4, 3, 3, 3, 4, 5, 5, 1};
        for (int i = 0; i < cut.length; i++) {
            for (int less = 0; less <= 1; less++) {
                Dwarf d = Samples.all();
                Elf elf = new Elf();
                for (int k = 0; k < DUE.length; k++) {
                    byte[] bytes = d.parts()[k].array();
                    Bytes kept = new Bytes();
                    for (int at = 0; at < bytes.length - (k == i ? less : 0); at++) {
                        kept.u1(bytes[at]);
                    }
                    elf.add(Dwarf.TITLES[k], kept);
                }
                elf.last = i < DUE.length ? Dwarf.TITLES[i] : elf.namesTitle;
                elf.padding = 3000 - elf.build().length;
                byte[] file = elf.build();
                // The names lack their last byte by their header alone.
                int names = 64 + 64 * (DUE.length + 1);
                if (i == DUE.length && less == 1) {
                    file = put(file, names + 32, 8, get(file, names + 32) - 1);
                }
                Check.same("the most bytes", file.length, 3000);
                Check.fault(elf.last + " at the end, less " + less, less == 0 ? 0 : cut[i], file);
                if (less == 0) {
                    Check.frames(elf.last + " at the end", file, 0x1010, "in@x.c:7 fun@x.c:5");
                    Check.frames(elf.last + " at the end", file, 0x3000, "s@:0");
                }
            }
        }
    }
}
