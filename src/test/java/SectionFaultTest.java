/** Promises 4 and 5 by FAULT 1, sections. */
public final class SectionFaultTest {
    private static final int HEADERS_AT = 0x28;

    public static void main(String[] args) {
        head();
        headers();
        places();
        names();
        chosen();
        Check.end();
    }

    private static byte[] put(byte[] file, int at, int n, long value) {
        byte[] bent = file.clone();
        for (int i = 0; i < n; i++) {
            bent[at + i] = (byte) (value >>> (8 * i));
        }
        return bent;
    }

    private static int get(byte[] file, int at) {
        return file[at] & 0xFF | (file[at + 1] & 0xFF) << 8;
    }

    private static void head() {
        byte[] file = Samples.plain().build();
        for (int i = 0; i < 7; i++) {
            Check.fault("byte " + i, 1, put(file, i, 1, file[i] + 1));
        }
        Check.fault("byte 7 is not looked at", 0, put(file, 7, 1, 99));
        byte[] least = new byte[64];
        System.arraycopy(file, 0, least, 0, 64);
        Check.fault("no room for headers", 1, least);
        byte[] less = new byte[63];
        System.arraycopy(file, 0, less, 0, 63);
        Check.fault("63 bytes", 1, less);
        Check.fault("size of a header", 1, put(file, 0x3A, 2, 65));
        Check.fault("size of a header, high", 1, put(file, 0x3A, 2, 64 + 256));
        Check.fault("no sections", 1, put(file, 0x3C, 2, 0));
        Check.fault("which has the names", 1, put(file, 0x3E, 2, 7));
        Check.fault("which has the names, high", 1, put(file, 0x3E, 2, 256));
        Check.fault("which has the names, high byte", 1, put(file, 0x3E, 2, 0x106));
        Check.fault("a section that has no names", 1, put(file, 0x3E, 2, 0));
        Check.same("one section", Check.opened("one", one()).count(0), 1);
        Elf most = new Elf();
        for (int i = 0; i < 22; i++) {
            most.add("s", new Bytes());
        }
        Check.fault("24 sections", 0, most.build());
        Check.same("count(0)", Check.opened("24", most.build()).count(0), 24);
        Check.fault("25 sections", 1, most.add("s", new Bytes()).build());
    }

    /** The section of names alone. */
    private static byte[] one() {
        byte[] two = new Elf().build();
        int second = get(two, HEADERS_AT) + 64;
        return put(put(put(two, HEADERS_AT, 8, second), 0x3C, 2, 1), 0x3E, 2, 0);
    }

    private static void headers() {
        byte[] file = Samples.plain().build();
        int at = get(file, HEADERS_AT);
        Check.fault("headers one too late", 1, put(file, HEADERS_AT, 8, at + 1));
        Check.fault("headers behind the file", 1, put(file, HEADERS_AT, 8, file.length + 1));
        Check.fault("headers that wrap", 1, put(file, HEADERS_AT, 8, -64));
        Check.fault("headers that wrap to fit", 1, put(file, HEADERS_AT, 8, -1));
        Check.fault("headers far behind", 1, put(file, HEADERS_AT, 8, 1L << 32 | at));
        Check.fault("headers farther behind", 1, put(file, HEADERS_AT, 8, 1L << 56 | at));
        byte[] less = new byte[file.length - 1];
        System.arraycopy(file, 0, less, 0, less.length);
        Check.fault("a byte less", 1, less);
        byte[] more = new byte[file.length + 1];
        System.arraycopy(file, 0, more, 0, file.length);
        Check.fault("a byte more", 0, more);
    }

    private static void places() {
        byte[] file = Samples.plain().build();
        int first = get(file, HEADERS_AT) + 64;
        Check.fault("begins behind the file", 1, put(file, first + 24, 8, file.length + 1));
        Check.fault("ends behind the file", 1, put(file, first + 32, 8, file.length));
        Check.fault("begins at a wrapped place", 1, put(file, first + 24, 8, -8));
        Check.fault("has a wrapped size", 1, put(file, first + 32, 8, -8));
        Check.fault("begins at -1", 1, put(put(file, first + 24, 8, -1), first + 32, 8, 1));
        Check.fault("begins at -1, of no bytes", 1, put(put(file, first + 24, 8, -1), first + 32, 8, 0));
        Check.fault("has the size -1", 1, put(file, first + 32, 8, -1));
        Check.fault("has a size of the highest byte", 1, put(file, first + 32, 8, 1L << 56 | get(file, first + 32)));
        Check.fault("begins at a place of the highest byte", 1, put(file, first + 24, 8, 1L << 56 | get(file, first + 24)));
        Check.fault("the first begins at 0", 0, put(file, first - 64 + 24, 8, 0));
        Check.fault("the first lies beyond", 1, put(file, first - 64 + 24, 8, file.length + 1));
        Check.fault("the first has no name", 1, put(file, first - 64, 4, 0xFFFF));
        byte[] behind = put(put(file, first + 24, 8, file.length), first + 32, 8, 0);
        Check.fault("of no bytes at the end of the file: no abbreviations", 2, behind);
        byte[] beyond = put(put(file, first + 24, 8, file.length + 1), first + 32, 8, 0);
        Check.fault("of no bytes beyond the end of the file", 1, beyond);
        Check.fault("of kind 8 it lies nowhere", 2, put(put(file, first + 24, 8, -8), first + 4, 4, 8));
        Check.fault("a kind whose lowest byte is 8", 1, put(put(file, first + 24, 8, -8), first + 4, 4, 0x108));
    }

    private static void names() {
        Elf elf = Samples.plain().elf();
        byte[] file = elf.build();
        int last = get(file, HEADERS_AT) + 64 * 6;
        int size = get(file, last + 32);
        Check.fault("the last name without an end", 1, put(file, last + 32, 8, size - 1));
        Check.fault("a name at the last byte", 0, put(file, last, 4, size - 1));
        Check.fault("a name behind the names", 1, put(file, last, 4, size));
        Check.fault("a name far behind", 1, put(file, last, 4, 0xFFFFFFFFL));
        elf.namesKind = 8;
        Check.fault("names of kind 8", 1, elf.build());
        Elf unnamed = new Elf().add("x", 8, new Bytes());
        byte[] kind8 = unnamed.build();
        int second = get(kind8, HEADERS_AT) + 64;
        Check.fault("the name of a section of kind 8", 1, put(kind8, second, 4, 0xFFFF));
    }

    /** The first section of each name counts, even when it is of kind 8. */
    private static void chosen() {
        Bytes two = new Bytes().u4(0).u1(2).u1(0).u2(0).u8(0x10).u8(0x10).u4(0).u1(2).u1(0).u2(0).u8(0x20).u8(0x10);
        Bytes one = new Bytes().u4(0).u1(2).u1(0).u2(0).u8(0x10).u8(0x10);
        Elf first = new Elf().add(".symtab", one).add(".symtab", two).add(".strtab", new Bytes().u1(0));
        Check.same("the first", Check.opened("first", first.build()).count(5), 1);
        Elf empty = new Elf().add(".symtab", 8, one).add(".symtab", two).add(".strtab", new Bytes().u1(0));
        Check.same("kind 8", Check.opened("kind 8", empty.build()).count(5), 0);
        Elf other = new Elf().add(".symta", one).add(".symtab2", one).add("symtab", one).add(".Symtab", one);
        other.add("xsymtab", one).add(".symtax", one);
        Check.same("other names", Check.opened("others", other.build()).count(5), 0);
        Elf absent = new Elf().add(".symtab", one);
        Check.fault("no .strtab", 5, absent.build());
        Elf names = new Elf().add(".symtab", one);
        names.namesTitle = ".strtab";
        Check.same("names that are looked at", Check.opened("names", names.build()).count(5), 1);
    }
}
