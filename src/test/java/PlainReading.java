import java.math.BigInteger;
import java.nio.charset.StandardCharsets;
import java.util.ArrayDeque;
import java.util.ArrayList;
import java.util.Arrays;
import java.util.HashMap;
import java.util.List;
import java.util.Map;

/**
 * The document read a second time, with the Java library and no thought of room or speed, so that the class can be
 * compared with it: each section is an array of its own, each number a BigInteger.
 */
final class PlainReading {
    private static final BigInteger WRAP = BigInteger.ONE.shiftLeft(64);
    private static final List<Integer> CONSTANTS = List.of(0x0B, 0x05, 0x06, 0x07, 0x0D, 0x0F, 0x21, 0x19);
    private static final List<Integer> TEXTS = List.of(0x08, 0x0E, 0x1F, 0x25);
    private static final List<Integer> OTHERS = List.of(0x01, 0x13, 0x17, 0x1B, 0x23, 0x18);
    private static final List<Integer> LINE_FORMS = List.of(0x08, 0x1F, 0x0B, 0x05, 0x0F);
    private static final List<Integer> LOOKED_AT = List.of(0x11, 0x2E, 0x1D, 0x0B);

    /** What the document asks is not so. */
    private static final class Wrong extends RuntimeException {
        private static final long serialVersionUID = 1;
    }

    private record Pair(BigInteger attribute, int form, BigInteger constant) { }

    private record Abbreviation(int tag, boolean hasChildren, List<Pair> pairs) { }

    private record Value(int form, BigInteger number, String text) { }

    private record Range(BigInteger from, BigInteger to) {
        boolean holds(BigInteger address) { return address.compareTo(from) >= 0 && address.compareTo(to) < 0; }
    }

    private record Row(BigInteger address, BigInteger file, int line, boolean isEnd) { }

    private record Symbol(String name, boolean isFunction, Range range) { }

    private static final class Unit {
        final Map<Integer, Value> values = new HashMap<>();
        final List<String> files = new ArrayList<>();
        final List<List<Row>> sequences = new ArrayList<>();
        final Map<Integer, Entry> entryAt = new HashMap<>();
        BigInteger low = BigInteger.ZERO;
    }

    private static final class Entry {
        Unit unit;
        Entry parent;
        int tag;
        final Map<Integer, Value> values = new HashMap<>();
        final List<Range> ranges = new ArrayList<>();
        String name;
        Entry origin;

        boolean has(int attribute) { return values.containsKey(attribute); }

        boolean saysWhere() { return has(0x55) || has(0x11) && has(0x12); }

        boolean holds(BigInteger address) { return ranges.stream().anyMatch(r -> r.holds(address)); }
    }

    /** Bytes that are read from a place on. */
    private static final class In {
        final byte[] bytes;
        int at;

        In(byte[] bytes, BigInteger place) {
            this.bytes = bytes;
            need(place.compareTo(BigInteger.valueOf(bytes.length)) <= 0);
            at = place.intValueExact();
        }

        boolean isAtEnd() { return at == bytes.length; }

        int u1() {
            need(at < bytes.length);
            return bytes[at++] & 0xFF;
        }

        BigInteger u(int n) {
            BigInteger sum = BigInteger.ZERO;
            for (int i = 0; i < n; i++) {
                sum = sum.add(BigInteger.valueOf(u1()).shiftLeft(8 * i));
            }
            return sum;
        }

        BigInteger uleb() {
            BigInteger sum = BigInteger.ZERO;
            for (int i = 0; i < 10; i++) {
                int b = u1();
                sum = sum.add(BigInteger.valueOf(b % 128).shiftLeft(7 * i));
                if (b < 128) {
                    return sum.mod(WRAP);
                }
            }
            throw new Wrong();
        }

        /** With sign. */
        BigInteger sleb() {
            BigInteger sum = BigInteger.ZERO;
            for (int i = 0; i < 10; i++) {
                int b = u1();
                sum = sum.add(BigInteger.valueOf(b % 128).shiftLeft(7 * i));
                if (b < 128) {
                    sum = b >= 64 ? sum.subtract(BigInteger.ONE.shiftLeft(7 * i + 7)) : sum;
                    return BigInteger.valueOf(sum.longValue());
                }
            }
            throw new Wrong();
        }

        String text() {
            StringBuilder text = new StringBuilder();
            for (int b = u1(); b != 0; b = u1()) {
                text.append((char) b);
            }
            return text.toString();
        }

        /** The next n bytes, as bytes of their own. */
        byte[] piece(BigInteger n) {
            need(n.compareTo(BigInteger.valueOf(bytes.length - at)) <= 0);
            at += n.intValueExact();
            return Arrays.copyOfRange(bytes, at - n.intValueExact(), at);
        }
    }

    int fault;
    int sectionsTotal;
    int rangesTotal;
    int rowsTotal;
    private final Map<String, byte[]> sections = new HashMap<>();
    private final List<Unit> units = new ArrayList<>();
    private final List<Entry> entries = new ArrayList<>();
    private final List<Symbol> symbols = new ArrayList<>();

    PlainReading(byte[] file) {
        List<Runnable> steps = List.of(() -> readSections(file), this::readUnits, this::readValues, this::readAllLines,
            this::readSymbols);
        for (int i = 0; i < steps.size() && fault == 0; i++) {
            try {
                steps.get(i).run();
            } catch (Wrong e) {
                fault = i + 1;
            }
        }
    }

    private static void need(boolean so) {
        if (!so) {
            throw new Wrong();
        }
    }

    private static BigInteger number(long value) { return BigInteger.valueOf(value); }

    private static BigInteger sum(BigInteger a, BigInteger b) { return a.add(b).mod(WRAP); }

    private static boolean is(BigInteger a, long b) { return a.equals(number(b)); }

    /** A number as an int where only small ones are looked for; the others are all -1. */
    private static int small(BigInteger a) { return a.bitLength() < 31 ? a.intValue() : -1; }

    private In section(String title, BigInteger place) {
        return new In(sections.getOrDefault(title, new byte[0]), place);
    }

    private String textIn(String title, BigInteger place) { return section(title, place).text(); }

    int[] counts() {
        return new int[] {sectionsTotal, units.size(), entries.size(), rangesTotal, rowsTotal, symbols.size()};
    }

    private void readSections(byte[] file) {
        need(file.length >= 64);
        byte[] magic = {0x7F, 0x45, 0x4C, 0x46, 2, 1, 1};
        need(Arrays.equals(magic, Arrays.copyOf(file, 7)));
        BigInteger headers = new In(file, number(0x28)).u(8);
        need(is(new In(file, number(0x3A)).u(2), 64));
        sectionsTotal = new In(file, number(0x3C)).u(2).intValue();
        int names = new In(file, number(0x3E)).u(2).intValue();
        need(sectionsTotal >= 1 && sectionsTotal <= 24 && names < sectionsTotal);
        byte[] table = new In(file, headers).piece(number(64L * sectionsTotal));
        List<byte[]> contents = new ArrayList<>();
        for (int i = 0; i < sectionsTotal; i++) {
            boolean hasBytes = !is(new In(table, number(64 * i + 4)).u(4), 8);
            BigInteger begin = new In(table, number(64 * i + 24)).u(8);
            BigInteger size = new In(table, number(64 * i + 32)).u(8);
            contents.add(hasBytes ? new In(file, begin).piece(size) : new byte[0]);
        }
        for (int i = 0; i < sectionsTotal; i++) {
            BigInteger place = new In(table, number(64 * i)).u(4);
            sections.putIfAbsent(new In(contents.get(names), place).text(), contents.get(i));
        }
    }

    private void readUnits() {
        In info = section(".debug_info", BigInteger.ZERO);
        while (!info.isAtEnd()) {
            byte[] rest = info.piece(info.u(4));
            In in = new In(rest, BigInteger.ZERO);
            need(is(in.u(2), 5) && in.u1() == 1 && in.u1() == 8);
            Map<BigInteger, Abbreviation> abbreviations = readAbbreviations(section(".debug_abbrev", in.u(4)));
            units.add(new Unit());
            need(units.size() <= 4);
            readEntries(units.get(units.size() - 1), in, abbreviations);
        }
    }

    private static Map<BigInteger, Abbreviation> readAbbreviations(In in) {
        Map<BigInteger, Abbreviation> all = new HashMap<>();
        for (BigInteger number = in.uleb(); !is(number, 0); number = in.uleb()) {
            int tag = small(in.uleb());
            int children = in.u1();
            need(children <= 1);
            List<Pair> pairs = new ArrayList<>();
            BigInteger attribute = in.uleb();
            BigInteger form = in.uleb();
            while (!is(attribute, 0) || !is(form, 0)) {
                int f = small(form);
                need(CONSTANTS.contains(f) || TEXTS.contains(f) || OTHERS.contains(f));
                pairs.add(new Pair(attribute, f, f == 0x21 ? in.sleb() : null));
                attribute = in.uleb();
                form = in.uleb();
            }
            need(pairs.size() <= 12);
            need(all.put(number, new Abbreviation(tag, children == 1, pairs)) == null);
        }
        need(all.size() <= 40);
        return all;
    }

    private void readEntries(Unit unit, In in, Map<BigInteger, Abbreviation> abbreviations) {
        ArrayDeque<Entry> open = new ArrayDeque<>();
        boolean isFirst = true;
        while (!in.isAtEnd()) {
            // Places of entries are counted from the length on, which is four bytes before.
            int place = in.at + 4;
            BigInteger number = in.uleb();
            if (is(number, 0)) {
                need(!open.isEmpty());
                open.pop();
                continue;
            }
            Abbreviation a = abbreviations.get(number);
            need(a != null && (a.tag == 0x11) == isFirst && open.isEmpty() == isFirst);
            isFirst = false;
            Entry e = new Entry();
            e.unit = unit;
            e.parent = open.peek();
            e.tag = a.tag;
            entries.add(e);
            need(entries.size() <= 200);
            unit.entryAt.put(place, e);
            for (Pair p : a.pairs) {
                Value value = readValue(in, p);
                e.values.putIfAbsent(small(p.attribute), value);
            }
            if (a.hasChildren) {
                open.push(e);
                need(open.size() <= 16);
            }
            unit.values.putAll(a.tag == 0x11 ? e.values : Map.of());
        }
        need(open.isEmpty() && !isFirst);
    }

    private static Value readValue(In in, Pair p) {
        switch (p.form) {
            case 0x01: case 0x07: return new Value(p.form, in.u(8), null);
            case 0x0B: case 0x25: return new Value(p.form, in.u(1), null);
            case 0x05: return new Value(p.form, in.u(2), null);
            case 0x06: case 0x0E: case 0x1F: case 0x13: case 0x17: return new Value(p.form, in.u(4), null);
            case 0x0D: return new Value(p.form, in.sleb(), null);
            case 0x0F: case 0x1B: case 0x23: return new Value(p.form, in.uleb(), null);
            case 0x21: return new Value(p.form, p.constant, null);
            case 0x19: return new Value(p.form, BigInteger.ONE, null);
            case 0x08: return new Value(p.form, null, in.text());
            case 0x18: return new Value(p.form, null, new String(in.piece(in.uleb()), StandardCharsets.ISO_8859_1));
            default: throw new IllegalStateException("no such form");
        }
    }

    private void readValues() {
        for (Unit unit : units) {
            for (int attribute : new int[] {0x10, 0x72, 0x73, 0x74}) {
                need(!unit.values.containsKey(attribute) || unit.values.get(attribute).form == 0x17);
            }
        }
        for (Entry e : entries) {
            if (LOOKED_AT.contains(e.tag)) {
                readValuesOf(e);
            }
        }
    }

    private void readValuesOf(Entry e) {
        e.name = e.has(0x03) ? text(e.unit, e.values.get(0x03)) : null;
        BigInteger low = e.has(0x11) ? address(e.unit, e.values.get(0x11)) : BigInteger.ZERO;
        e.unit.low = e.tag == 0x11 ? low : e.unit.low;
        BigInteger high = null;
        if (e.has(0x12)) {
            Value v = e.values.get(0x12);
            high = CONSTANTS.contains(v.form) ? sum(low, v.number) : address(e.unit, v);
        }
        for (int attribute : new int[] {0x58, 0x59}) {
            need(!e.has(attribute) || CONSTANTS.contains(e.values.get(attribute).form));
        }
        if (e.has(0x31)) {
            Value v = e.values.get(0x31);
            e.origin = v.form == 0x13 ? e.unit.entryAt.get(small(v.number)) : null;
            need(e.origin != null && (e.origin.tag == 0x2E || e.origin.tag == 0x1D));
        }
        if (e.has(0x55)) {
            readRanges(e, section(".debug_rnglists", listPlace(e.unit, e.values.get(0x55))));
        } else if (e.has(0x11) && e.has(0x12)) {
            e.ranges.add(new Range(low, high));
        }
        rangesTotal += e.ranges.size();
        need(rangesTotal <= 300);
    }

    private static BigInteger base(Unit unit, int attribute) {
        return unit.values.containsKey(attribute) ? unit.values.get(attribute).number : BigInteger.ZERO;
    }

    private String text(Unit unit, Value v) {
        need(TEXTS.contains(v.form));
        if (v.form == 0x08) {
            return v.text;
        }
        if (v.form == 0x25) {
            BigInteger place = base(unit, 0x72).add(v.number.multiply(number(4)));
            return textIn(".debug_str", section(".debug_str_offsets", place).u(4));
        }
        return textIn(v.form == 0x0E ? ".debug_str" : ".debug_line_str", v.number);
    }

    private BigInteger address(Unit unit, Value v) {
        need(v.form == 0x01 || v.form == 0x1B);
        return v.form == 0x01 ? v.number : address(unit, v.number);
    }

    private BigInteger address(Unit unit, BigInteger index) {
        return section(".debug_addr", base(unit, 0x73).add(index.multiply(number(8)))).u(8);
    }

    private BigInteger listPlace(Unit unit, Value v) {
        need(v.form == 0x17 || v.form == 0x23);
        BigInteger base = base(unit, 0x74);
        BigInteger entry = base.add(v.number.multiply(number(4)));
        return v.form == 0x17 ? v.number : base.add(section(".debug_rnglists", entry).u(4));
    }

    private void readRanges(Entry e, In in) {
        BigInteger base = e.unit.low;
        for (int kind = in.u1(); kind != 0; kind = in.u1()) {
            BigInteger from;
            switch (kind) {
                case 1:
                    base = address(e.unit, in.uleb());
                    break;
                case 2:
                    from = address(e.unit, in.uleb());
                    e.ranges.add(new Range(from, address(e.unit, in.uleb())));
                    break;
                case 3:
                    from = address(e.unit, in.uleb());
                    e.ranges.add(new Range(from, sum(from, in.uleb())));
                    break;
                case 4:
                    from = sum(base, in.uleb());
                    e.ranges.add(new Range(from, sum(base, in.uleb())));
                    break;
                case 5:
                    base = in.u(8);
                    break;
                case 6:
                    from = in.u(8);
                    e.ranges.add(new Range(from, in.u(8)));
                    break;
                case 7:
                    from = in.u(8);
                    e.ranges.add(new Range(from, sum(from, in.uleb())));
                    break;
                default:
                    throw new Wrong();
            }
        }
    }

    private void readAllLines() {
        for (Unit unit : units) {
            if (unit.values.containsKey(0x10)) {
                In in = section(".debug_line", unit.values.get(0x10).number);
                readLines(unit, new In(in.piece(in.u(4)), BigInteger.ZERO));
            }
        }
    }

    private void readLines(Unit unit, In in) {
        need(is(in.u(2), 5) && in.u1() == 8 && in.u1() == 0);
        BigInteger headSize = in.u(4);
        BigInteger headEnd = headSize.add(number(in.at));
        need(in.u1() == 1 && in.u1() == 1);
        in.u1();
        int lineBase = (byte) in.u1();
        int lineRange = in.u1();
        int first = in.u1();
        need(lineRange != 0 && first >= 10 && first <= 200);
        byte[] operands = in.piece(number(first - 1));
        readNames(in, new ArrayList<>(), Integer.MAX_VALUE);
        readNames(in, unit.files, 30);
        need(headEnd.compareTo(number(in.at)) >= 0);
        new LineProgram(unit, new In(in.bytes, headEnd), operands, lineBase, lineRange).run();
    }

    private void readNames(In in, List<String> to, int most) {
        int forms = in.u1();
        need(forms <= 6);
        int nameIndex = -1;
        int[] form = new int[forms];
        for (int i = 0; i < forms; i++) {
            boolean isName = is(in.uleb(), 1) && nameIndex == -1;
            form[i] = small(in.uleb());
            need(LINE_FORMS.contains(form[i]));
            need(!isName || form[i] == 0x08 || form[i] == 0x1F);
            nameIndex = isName ? i : nameIndex;
        }
        BigInteger total = in.uleb();
        need(most == Integer.MAX_VALUE || total.compareTo(number(most)) <= 0);
        // Those without forms have nothing that could be read.
        BigInteger end = forms == 0 && most == Integer.MAX_VALUE ? BigInteger.ZERO : total;
        for (BigInteger i = BigInteger.ZERO; i.compareTo(end) < 0; i = i.add(BigInteger.ONE)) {
            String name = null;
            for (int f = 0; f < forms; f++) {
                Value v = readValue(in, new Pair(null, form[f], null));
                if (f == nameIndex) {
                    name = v.form == 0x08 ? v.text : textIn(".debug_line_str", v.number);
                }
            }
            to.add(name);
        }
    }

    private final class LineProgram {
        private final Unit unit;
        private final In in;
        private final byte[] operands;
        private final int lineBase;
        private final int lineRange;
        private BigInteger address;
        private BigInteger file;
        private int line;
        private List<Row> rows;

        LineProgram(Unit unit, In in, byte[] operands, int lineBase, int lineRange) {
            this.unit = unit;
            this.in = in;
            this.operands = operands;
            this.lineBase = lineBase;
            this.lineRange = lineRange;
        }

        private void begin() {
            address = BigInteger.ZERO;
            file = BigInteger.ONE;
            line = 1;
            rows = new ArrayList<>();
        }

        private void row(boolean isEnd) {
            rows.add(new Row(address, file, line, isEnd));
            rowsTotal++;
            need(rowsTotal <= 400);
        }

        private void goOn(BigInteger by) { address = sum(address, by); }

        void run() {
            int first = operands.length + 1;
            begin();
            while (!in.isAtEnd()) {
                int code = in.u1();
                if (code >= first) {
                    goOn(number((code - first) / lineRange));
                    line += lineBase + (code - first) % lineRange;
                    row(false);
                } else if (code == 0) {
                    extended(new In(in.piece(in.uleb()), BigInteger.ZERO));
                } else {
                    standard(code, first);
                }
            }
        }

        private void extended(In piece) {
            int what = piece.u1();
            if (what == 1) {
                row(true);
                unit.sequences.add(rows);
                begin();
            } else if (what == 2) {
                address = piece.u(8);
            }
        }

        private void standard(int code, int first) {
            switch (code) {
                case 1: row(false); break;
                case 2: goOn(in.uleb()); break;
                case 3: line += in.sleb().intValue(); break;
                case 4: file = in.uleb(); break;
                case 5: case 12: in.uleb(); break;
                case 6: case 7: case 10: case 11: break;
                case 8: goOn(number((255 - first) / lineRange)); break;
                case 9: goOn(in.u(2)); break;
                default:
                    for (int i = 0; i < (operands[code - 1] & 0xFF); i++) {
                        in.uleb();
                    }
            }
        }
    }

    private void readSymbols() {
        In in = section(".symtab", BigInteger.ZERO);
        while (!in.isAtEnd()) {
            In one = new In(in.piece(number(24)), BigInteger.ZERO);
            String name = textIn(".strtab", one.u(4));
            int kind = one.u1();
            one.u(3);
            BigInteger value = one.u(8);
            symbols.add(new Symbol(name, kind % 16 == 2, new Range(value, sum(value, one.u(8)))));
            need(symbols.size() <= 60);
        }
    }

    /** What the frames of an address are: a name, a file (empty ones for none) and a line each, the innermost first. */
    record Frame(String name, String file, int line) { }

    List<Frame> frames(long where) {
        BigInteger address = number(where).mod(WRAP);
        List<Frame> frames = new ArrayList<>();
        List<Entry> chain = new ArrayList<>();
        for (Entry e = next(null, address); e != null; e = next(e, address)) {
            chain.add(0, e);
        }
        for (int i = 0; i < chain.size(); i++) {
            Entry e = chain.get(i);
            if (i == 0) {
                Row row = row(e.unit, address);
                frames.add(new Frame(nameOf(e), row == null ? "" : fileOf(e.unit, row.file), row == null ? 0 : row.line));
            } else {
                Map<Integer, Value> v = chain.get(i - 1).values;
                String file = v.containsKey(0x58) ? fileOf(e.unit, v.get(0x58).number) : "";
                frames.add(new Frame(nameOf(e), file, v.containsKey(0x59) ? v.get(0x59).number.intValue() : 0));
            }
        }
        for (Symbol s : symbols) {
            if (frames.isEmpty() && s.isFunction && s.range.holds(address)) {
                frames.add(new Frame(s.name, "", 0));
            }
        }
        return frames;
    }

    /** The first function without one before, else the first that is put into that. */
    private Entry next(Entry before, BigInteger address) {
        for (Entry e : entries) {
            if (e.tag == (before == null ? 0x2E : 0x1D) && e.holds(address) && (before == null || isIn(e, before, address))) {
                return e;
            }
        }
        return null;
    }

    private static boolean isIn(Entry e, Entry outer, BigInteger address) {
        if (e.parent == outer) {
            return true;
        }
        Entry p = e.parent;
        return p != null && p.tag == 0x0B && (p.holds(address) || !p.saysWhere()) && isIn(p, outer, address);
    }

    private static Row row(Unit unit, BigInteger address) {
        for (List<Row> rows : unit.sequences) {
            if (new Range(rows.get(0).address, rows.get(rows.size() - 1).address).holds(address)) {
                Row last = null;
                for (Row r : rows) {
                    last = !r.isEnd && r.address.compareTo(address) <= 0 ? r : last;
                }
                return last;
            }
        }
        return null;
    }

    private static String fileOf(Unit unit, BigInteger number) {
        boolean isThere = number.signum() >= 0 && number.compareTo(number(unit.files.size())) < 0;
        String name = isThere ? unit.files.get(number.intValue()) : null;
        return name == null ? "" : name;
    }

    private static String nameOf(Entry entry) {
        Entry e = entry;
        for (int origins = 0; e.name == null && e.origin != null && origins < 8; origins++) {
            e = e.origin;
        }
        return e.name == null ? "" : e.name;
    }
}
