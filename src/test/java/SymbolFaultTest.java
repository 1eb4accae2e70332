/** Promises 4 and 5 by FAULT 5, symbols. */
public final class SymbolFaultTest {
    public static void main(String[] args) {
        Dwarf d = new Dwarf();
        for (int i = 1; i <= 61; i++) {
            d.symtab.u4(0).u1(2).u1(0).u2(0).u8(i).u8(1);
            d.strtab.u1(i == 1 ? 0 : 1);
            if (i >= 59) {
                Check.fault(i + " symbols", i <= 60 ? 0 : 5, d.build());
            }
        }
        for (int n = 1; n < 24; n++) {
            Dwarf cut = new Dwarf().symbol("s", 2, 1, 1);
            cut.symtab.raw(new int[n]);
            Check.fault(n + " bytes too many", 5, cut.build());
        }
        name("at the last byte", 0, 2);
        name("behind the last byte", 5, 3);
        name("far behind", 5, 0xFFFFFFFFL);
        Dwarf open = new Dwarf().symbol("s", 2, 1, 1);
        open.symtab.u4(2).u1(2).u1(0).u2(0).u8(1).u8(1);
        open.strtab.u1('x');
        Check.fault("a name without end", 5, open.build());
        Dwarf data = new Dwarf();
        data.symtab.u4(7).u1(1).u1(0).u2(0).u8(1).u8(1);
        data.strtab.u1(0);
        Check.fault("a name that is not there, of a symbol that is no function", 5, data.build());
        Check.end();
    }

    private static void name(String what, int fault, long place) {
        Dwarf d = new Dwarf();
        d.symtab.u4(place).u1(2).u1(0).u2(0).u8(1).u8(1);
        d.strtab.text("ab");
        Check.fault(what, fault, d.build());
    }
}
