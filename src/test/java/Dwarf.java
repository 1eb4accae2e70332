/** The sections of a file that are looked at, made piece by piece; empty ones are left out. */
final class Dwarf {
    final Bytes abbrev = new Bytes();
    final Bytes info = new Bytes();
    final Bytes str = new Bytes();
    final Bytes lineStr = new Bytes();
    final Bytes strOffsets = new Bytes();
    final Bytes addr = new Bytes();
    final Bytes rnglists = new Bytes();
    final Bytes line = new Bytes();
    final Bytes symtab = new Bytes();
    final Bytes strtab = new Bytes();

    /** An abbreviation: attribute, form, attribute, form ..; behind form 0x21 its value. */
    Dwarf abbrev(long number, long tag, int children, long... pairs) {
        abbrev.uleb(number).uleb(tag).u1(children);
        for (int i = 0; i + 1 < pairs.length; i += 2) {
            abbrev.uleb(pairs[i]).uleb(pairs[i + 1]);
            if (pairs[i + 1] == 0x21) {
                abbrev.sleb(pairs[i + 2]);
                i++;
            }
        }
        abbrev.uleb(0).uleb(0);
        return this;
    }

    Dwarf endAbbrevs() {
        abbrev.uleb(0);
        return this;
    }

    Dwarf unit(long abbrevPlace, Bytes entries) {
        info.u4(8 + entries.size()).u2(5).u1(1).u1(8).u4(abbrevPlace).all(entries);
        return this;
    }

    Dwarf unit(Bytes entries) { return unit(0, entries); }

    Dwarf symbol(String name, int kind, long value, long size) {
        symtab.u4(strtab.size()).u1(kind).u1(0).u2(1).u8(value).u8(size);
        strtab.text(name);
        return this;
    }

    static final String[] TITLES = {
        ".debug_abbrev", ".debug_info", ".debug_str", ".debug_line_str", ".debug_str_offsets", ".debug_addr",
        ".debug_rnglists", ".debug_line", ".symtab", ".strtab"};

    /** The sections in the order of their titles. */
    Bytes[] parts() {
        return new Bytes[] {abbrev, info, str, lineStr, strOffsets, addr, rnglists, line, symtab, strtab};
    }

    Elf elf() {
        Elf elf = new Elf();
        Bytes[] parts = parts();
        for (int i = 0; i < parts.length; i++) {
            if (parts[i].size() != 0) {
                elf.add(TITLES[i], parts[i]);
            }
        }
        return elf;
    }

    byte[] build() { return elf().build(); }
}
