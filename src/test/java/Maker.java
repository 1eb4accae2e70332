import java.util.ArrayList;
import java.util.Arrays;
import java.util.List;
import java.util.Random;

/** Makes files by chance from a seed: most are well formed, and many of their functions overlap; some are damaged. */
final class Maker {
    private static final int[] CONSTANTS = {0x0B, 0x05, 0x06, 0x07, 0x0D, 0x0F, 0x21, 0x19};
    private static final int[] TEXTS = {0x08, 0x0E, 0x1F, 0x25};
    private static final int[] ADDRESSES = {0x01, 0x1B};
    private static final int[] HIGHS = {0x01, 0x1B, 0x0B, 0x05, 0x06, 0x07, 0x0D, 0x0F, 0x21, 0x19};
    private static final int[] LISTS = {0x17, 0x23};
    private static final int[] PLACE = {0x17};
    private static final int[] ENTRY = {0x13};
    private static final int[] ALL = {
        0x01, 0x0B, 0x05, 0x06, 0x07, 0x0D, 0x0F, 0x21, 0x19, 0x08, 0x0E, 0x1F, 0x25, 0x13, 0x17, 0x1B, 0x23, 0x18};
    private static final int[] TAGS = {0x2E, 0x2E, 0x1D, 0x1D, 0x1D, 0x1D, 0x1D, 0x0B, 0x0B, 0x39};
    private static final int[] LINE_FORMS = {0x08, 0x1F, 0x0B, 0x05, 0x0F};

    private record Kind(long number, int tag, boolean hasChildren, int[] attributes, int[] forms) { }

    private final Random chance;
    private Dwarf d;
    private int strBase;
    private int addrBase;
    private int listBase;
    private int addresses;
    private int lists;
    private final List<Integer> listPlaces = new ArrayList<>();
    private final List<Integer> linePlaces = new ArrayList<>();
    private List<Kind> kinds;
    private Bytes body;
    private final List<Integer> functions = new ArrayList<>();
    private final List<Integer> origins = new ArrayList<>();

    Maker(long seed) { chance = new Random(seed); }

    int next(int bound) { return chance.nextInt(bound); }

    private boolean once(int in) { return next(in) == 0; }

    private int any(int[] of) { return of[next(of.length)]; }

    private int any(List<Integer> of) { return of.isEmpty() ? next(50) : of.get(next(of.size())); }

    /** An address where much is, at the lowest, or at the highest. */
    long address() {
        int where = next(20);
        return where == 0 ? next(0x20) : where == 1 ? -1 - next(0x20) : 0x1000 + next(0x40);
    }

    /** At most 3,000 bytes. */
    byte[] file() {
        byte[] file = make();
        while (file.length > 3000) {
            file = make();
        }
        return once(3) ? damaged(file) : file;
    }

    private byte[] make() {
        d = new Dwarf();
        makeTexts();
        makeAddresses();
        makeLists();
        makeLineTables();
        int place = 0;
        for (int units = once(30) ? 5 : next(5); units > 0; units--) {
            if (kinds == null || d.info.size() == 0 || !once(3)) {
                place = d.abbrev.size();
                makeKinds();
            }
            makeUnit(place);
        }
        for (int i = next(5); i > 0; i--) {
            d.symbol(text(), once(3) ? next(256) : 16 * next(16) + 2, address(), next(0x30));
        }
        if (once(20)) {
            d.symtab.u4(d.strtab.size()).raw(new int[1 + next(20)]);
        }
        Elf elf = d.elf();
        elf.last = once(4) ? Dwarf.TITLES[next(10)] : null;
        elf.padding = next(9);
        return elf.build();
    }

    private String text() { return "abcdefgh".substring(next(8)).substring(0, next(2)) + (once(9) ? "\u00E9" : ""); }

    private void makeTexts() {
        for (int i = 0; i < 4; i++) {
            d.str.text("s" + i);
            d.lineStr.text("l" + i);
        }
        strBase = any(new int[] {0, 4, 8});
        d.strOffsets.raw(new int[strBase]);
        for (int i = 0; i < 4; i++) {
            d.strOffsets.u4(next(12));
        }
    }

    private void makeAddresses() {
        addrBase = any(new int[] {0, 8, 3});
        addresses = 4 + next(4);
        d.addr.raw(new int[addrBase]);
        for (int i = 0; i < addresses; i++) {
            d.addr.u8(once(4) ? address() : 0x1000 + 0x20 * (i % 2) + next(0x20));
        }
    }

    private void makeLists() {
        listBase = any(new int[] {0, 12});
        lists = 1 + next(3);
        listPlaces.clear();
        Bytes all = new Bytes();
        Bytes places = new Bytes();
        for (int i = 0; i < lists; i++) {
            listPlaces.add(listBase + 4 * lists + all.size());
            places.u4(4 * lists + all.size());
            for (int n = next(5); n > 0; n--) {
                makePiece(all, once(600) ? 8 : 1 + next(7));
            }
            all.u1(0);
        }
        d.rnglists.raw(new int[listBase]).all(places).all(all);
    }

    private void makePiece(Bytes to, int kind) {
        to.u1(kind);
        switch (kind) {
            case 1: to.uleb(next(addresses)); break;
            case 2: to.uleb(next(addresses)).uleb(next(addresses)); break;
            case 3: to.uleb(next(addresses)).uleb(next(0x40)); break;
            case 4: to.uleb(next(0x20)).uleb(once(3) ? address() : next(0x60)); break;
            case 5: to.u8(address()); break;
            case 6: to.u8(address()).u8(address()); break;
            default: to.u8(address()).uleb(next(0x40));
        }
    }

    private void makeLineTables() {
        linePlaces.clear();
        for (int i = next(4); i > 0; i--) {
            linePlaces.add(d.line.size());
            LineTable t = new LineTable();
            t.lineBase = next(12) - 8;
            t.lineRange = 1 + next(20);
            t.first = once(3) ? 10 + next(12) : 13;
            t.operands = new Bytes();
            for (int k = 1; k < t.first; k++) {
                t.operands.u1(next(3));
            }
            t.folders = names(once(20) ? 40 : next(3));
            t.files = names(once(60) ? 31 : next(6));
            t.gap = new Bytes().raw(new int[once(4) ? next(4) : 0]);
            for (int s = 1 + next(3); s > 0; s--) {
                makeSequence(t.program);
            }
            d.line.all(t.build());
        }
    }

    private Bytes names(int total) {
        int forms = once(12) ? 0 : 1 + next(3);
        int[] form = new int[forms];
        Bytes b = new Bytes().u1(forms);
        boolean isNamed = false;
        for (int i = 0; i < forms; i++) {
            boolean isName = !once(3);
            form[i] = isName && !isNamed && !once(80) ? any(new int[] {0x08, 0x1F}) : any(LINE_FORMS);
            isNamed |= isName;
            b.uleb(isName ? 1 : 2 + next(4)).uleb(form[i]);
        }
        b.uleb(total);
        for (int i = 0; i < total; i++) {
            for (int f : form) {
                if (f == 0x08) {
                    b.text(text());
                } else if (f == 0x1F) {
                    b.u4(next(12));
                } else {
                    b.number(f == 0x05 ? 2 : 1, next(99));
                }
            }
        }
        return b;
    }

    private void makeSequence(Bytes to) {
        to.raw(0).uleb(9).u1(2).u8(once(6) ? address() : 0x1000 + next(0x10));
        for (int n = next(9); n > 0; n--) {
            int code = once(2) ? 10 + next(246) : 1 + next(12);
            to.u1(code);
            if (code == 9) {
                to.u2(next(8));
            } else if (code == 3) {
                to.sleb(next(200) - 80);
            } else if (code == 4) {
                to.uleb(next(7));
            } else if (code == 2 || code == 5 || code == 12) {
                to.uleb(next(16));
            }
            if (once(6)) {
                int size = 1 + next(4);
                to.u1(0).uleb(size).u1(3 + next(9)).raw(new int[size - 1]);
            }
        }
        if (!once(6)) {
            to.u1(2).uleb(next(0x40)).raw(0, 1, 1);
        }
    }

    private int[] formsFor(int attribute) {
        switch (attribute) {
            case 0x03: return TEXTS;
            case 0x11: return ADDRESSES;
            case 0x12: return HIGHS;
            case 0x55: return LISTS;
            case 0x31: return ENTRY;
            case 0x58: case 0x59: return CONSTANTS;
            case 0x10: case 0x72: case 0x73: case 0x74: return PLACE;
            default: return ALL;
        }
    }

    private int[] attributesFor(int tag) {
        List<Integer> all = new ArrayList<>();
        int[] often = tag == 0x11 ? new int[] {0x72, 0x73, 0x74, 0x10, 0x11} : new int[] {0x11, 0x12};
        int[] seldom = {0x03, 0x31, 0x55, 0x58, 0x59, 0x12, 0x11, 0x3A, 0x49};
        for (int a : often) {
            if (!once(a == 0x10 ? 6 : 12)) {
                all.add(a);
            }
        }
        for (int a : seldom) {
            boolean likely = a == 0x03 || tag == 0x1D && (a == 0x58 || a == 0x59) || tag != 0x11 && a == 0x31;
            if (next(10) < (likely ? 5 : tag == 0x11 && a == 0x31 ? 0 : 1)) {
                all.add(next(all.size() + 1), a);
            }
        }
        return all.stream().mapToInt(a -> a).limit(12).toArray();
    }

    private void makeKinds() {
        kinds = new ArrayList<>();
        for (int i = 0; i < 8; i++) {
            int tag = i == 0 ? 0x11 : i == 1 ? 0x2E : i == 2 ? 0x1D : any(TAGS);
            int[] attributes = attributesFor(tag);
            int[] forms = new int[attributes.length];
            long[] pairs = new long[3 * forms.length];
            int used = 0;
            for (int k = 0; k < forms.length; k++) {
                forms[k] = any(once(1000) ? ALL : formsFor(attributes[k]));
                pairs[used++] = attributes[k];
                pairs[used++] = forms[k];
                if (forms[k] == 0x21) {
                    pairs[used++] = next(0x50) - 4;
                }
            }
            long number = once(5) ? 1000 + i : i + 1;
            boolean hasChildren = !once(i == 0 ? 20 : 6);
            kinds.add(new Kind(number, tag, hasChildren, attributes, forms));
            d.abbrev(number, tag, hasChildren ? 1 : 0, Arrays.copyOf(pairs, used));
        }
        d.endAbbrevs();
    }

    private void makeUnit(int abbrevPlace) {
        body = new Bytes();
        functions.clear();
        origins.clear();
        makeEntry(kinds.get(0), once(12) ? 17 : 6);
        byte[] bytes = body.array();
        for (int at : origins) {
            int to = once(800) ? next(60) : any(functions);
            bytes[at] = (byte) to;
            bytes[at + 1] = (byte) (to >> 8);
        }
        int[] again = new int[bytes.length];
        for (int i = 0; i < again.length; i++) {
            again[i] = bytes[i];
        }
        d.unit(abbrevPlace, new Bytes().raw(again));
    }

    private void makeEntry(Kind k, int deep) {
        if (k.tag == 0x2E || k.tag == 0x1D) {
            functions.add(12 + body.size());
        }
        body.uleb(k.number);
        for (int i = 0; i < k.forms.length; i++) {
            makeValue(k.attributes[i], k.forms[i]);
        }
        if (k.hasChildren) {
            int most = deep > 6 ? 2 : k.tag == 0x11 ? 6 : 3;
            for (int n = deep == 0 ? 0 : next(most) + (deep > 6 || k.tag == 0x11 ? 1 : 0); n > 0; n--) {
                makeEntry(kinds.get(k.tag != 0x11 && once(2) ? 2 : 1 + next(7)), deep - 1);
            }
            body.u1(0);
        }
    }

    private void makeValue(int attribute, int form) {
        switch (form) {
            case 0x01: body.u8(attribute == 0x12 ? 0x1020 + next(0x40) : once(6) ? address() : 0x1000 + next(0x20)); break;
            case 0x0B: body.u1(constant(attribute)); break;
            case 0x05: body.u2(constant(attribute)); break;
            case 0x06: body.u4(constant(attribute)); break;
            case 0x07: body.u8(constant(attribute)); break;
            case 0x0D: body.sleb(constant(attribute) - 1); break;
            case 0x0F: body.uleb(constant(attribute)); break;
            case 0x08: body.text(text()); break;
            case 0x0E: case 0x1F: body.u4(once(400) ? 12 : next(12)); break;
            case 0x25: body.u1(next(4)); break;
            case 0x13: origins.add(body.size()); body.u4(0); break;
            case 0x17: body.u4(place(attribute)); break;
            case 0x1B: body.uleb(once(400) ? addresses : next(addresses)); break;
            case 0x23: body.uleb(next(lists)); break;
            case 0x18: body.uleb(2).u2(next(99)); break;
            default: break;
        }
    }

    private int constant(int attribute) { return attribute == 0x58 ? next(6) : attribute == 0x12 ? 0x10 + next(0x50) : next(0x60); }

    private int place(int attribute) {
        switch (attribute) {
            case 0x10: return any(linePlaces);
            case 0x72: return strBase;
            case 0x73: return addrBase;
            case 0x74: return listBase;
            default: return any(listPlaces);
        }
    }

    private byte[] damaged(byte[] whole) {
        byte[] file = whole.clone();
        for (int i = next(3); i >= 0; i--) {
            int at = next(file.length);
            file[at] = (byte) (once(2) ? file[at] + (once(2) ? 1 : -1) : once(2) ? next(256) : any(new int[] {0, 1, 127, 128, 255}));
        }
        return once(30) ? Arrays.copyOf(file, next(file.length)) : file;
    }
}
