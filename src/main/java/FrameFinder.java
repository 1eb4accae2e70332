/**
 * Reads the tables that a compiler leaves beside a program, and tells for an address which functions
 * it is in, one put into another, and on which lines.
 */
public final class FrameFinder {
    /** None. */
    public static final int NONE = -1;

    private static final int MAX_BYTES = 3000;
    private static final int MAX_LOAD = 8;
    private static final int MAX_SECTIONS = 24;
    private static final int MAX_UNITS = 4;
    private static final int MAX_ABBREVIATIONS = 40;
    private static final int MAX_ATTRIBUTES = 12;
    private static final int MAX_ENTRIES = 200;
    private static final int MAX_OPEN = 16;
    private static final int MAX_RANGES = 300;
    private static final int MAX_LINE_FORMS = 6;
    private static final int MAX_FILES = 30;
    private static final int MAX_ROWS = 400;
    private static final int MAX_SYMBOLS = 60;
    private static final int MAX_ORIGINS = 8;
    private static final int MAX_ULEB = 10;
    // The outermost of the open entries is the unit's own, which is never a frame.
    private static final int MAX_FRAMES = MAX_OPEN;
    private static final long TOP_BIT = 1L << 63;

    private static final int FAULT_SECTIONS = 1;
    private static final int FAULT_UNITS = 2;
    private static final int FAULT_VALUES = 3;
    private static final int FAULT_LINES = 4;
    private static final int FAULT_SYMBOLS = 5;

    private static final int[] MAGIC = {0x7F, 0x45, 0x4C, 0x46, 0x02, 0x01, 0x01};
    private static final int HEADER_BYTES = 64;
    private static final int KIND_NO_BYTES = 8;
    private static final int SYMBOL_BYTES = 24;
    private static final int SYMBOL_FUNCTION = 2;

    private static final int ABBREV = 0;
    private static final int INFO = 1;
    private static final int STR = 2;
    private static final int LINE_STR = 3;
    private static final int STR_OFFSETS = 4;
    private static final int ADDR = 5;
    private static final int RNGLISTS = 6;
    private static final int LINE_TABLE = 7;
    private static final int SYMTAB = 8;
    private static final int STRTAB = 9;
    private static final int LOOKED_AT = 10;

    private static final int TAG_UNIT = 0x11;
    private static final int TAG_FUNCTION = 0x2E;
    private static final int TAG_PUT_IN = 0x1D;
    private static final int TAG_BLOCK = 0x0B;

    private static final int FORM_ADDRESS = 0x01;
    private static final int FORM_U2 = 0x05;
    private static final int FORM_U4 = 0x06;
    private static final int FORM_U8 = 0x07;
    private static final int FORM_TEXT = 0x08;
    private static final int FORM_U1 = 0x0B;
    private static final int FORM_SLEB = 0x0D;
    private static final int FORM_STR = 0x0E;
    private static final int FORM_ULEB = 0x0F;
    private static final int FORM_ENTRY = 0x13;
    private static final int FORM_PLACE = 0x17;
    private static final int FORM_BYTES = 0x18;
    private static final int FORM_ONE = 0x19;
    private static final int FORM_ADDRESS_INDEX = 0x1B;
    private static final int FORM_LINE_STR = 0x1F;
    private static final int FORM_CONSTANT = 0x21;
    private static final int FORM_LIST_INDEX = 0x23;
    private static final int FORM_STR_INDEX = 0x25;

    // The attributes of every entry that is looked at, each at the slot that keeps it.
    private static final int[] ATTRIBUTES = {0x03, 0x11, 0x12, 0x55, 0x31, 0x58, 0x59};
    private static final int NAME = 0;
    private static final int LOW = 1;
    private static final int HIGH = 2;
    private static final int RANGE_LIST = 3;
    private static final int ORIGIN = 4;
    private static final int CALL_FILE = 5;
    private static final int CALL_LINE = 6;
    private static final int SLOTS = 7;

    // The attributes that count in a unit's own entry only, likewise.
    private static final int[] UNIT_ATTRIBUTES = {0x10, 0x72, 0x73, 0x74};
    private static final int LINES = 0;
    private static final int STR_BASE = 1;
    private static final int ADDR_BASE = 2;
    private static final int LIST_BASE = 3;
    private static final int UNIT_SLOTS = 4;

    private final byte[] image;
    private final Sections sections;
    private final Entries entries;
    private final UnitReader unitReader;
    private final Ranges ranges;
    private final ValueReader valueReader;
    private final Rows rows;
    private final LineReader lineReader;
    private final Symbols symbols;
    private final Frames frames;
    private int length;
    private boolean isRead;
    private int latestFault;

    /** No bytes; nothing read. */
    public FrameFinder() {
        image = new byte[MAX_BYTES];
        sections = new Sections(image);
        entries = new Entries();
        unitReader = new UnitReader(image, sections, entries);
        ranges = new Ranges();
        valueReader = new ValueReader(image, sections, entries, ranges);
        rows = new Rows();
        lineReader = new LineReader(image, sections, entries, rows);
        symbols = new Symbols(image, sections);
        frames = new Frames(image, entries, ranges, rows, symbols);
    }

    /** Appends the n lowest bytes of bytes to the file, the lowest first; false when that is refused. */
    public boolean load(int n, long bytes) {
        if (n < 1 || n > MAX_LOAD || n > MAX_BYTES - length) {
            return false;
        }
        for (int i = 0; i < n; i++) {
            image[length + i] = (byte) (bytes >>> (8 * i));
        }
        length += n;
        forget();
        return true;
    }

    /** There are no bytes; nothing is read. */
    public void clear() {
        length = 0;
        forget();
    }

    /** Reads the file: how many entries there are. */
    public int open() throws IllegalArgumentException {
        forget();
        latestFault = 0;
        if (!sections.read(length)) {
            latestFault = FAULT_SECTIONS;
        } else if (!unitReader.read()) {
            latestFault = FAULT_UNITS;
        } else if (!valueReader.read()) {
            latestFault = FAULT_VALUES;
        } else if (!lineReader.read()) {
            latestFault = FAULT_LINES;
        } else if (!symbols.read()) {
            latestFault = FAULT_SYMBOLS;
        }
        if (latestFault != 0) {
            throw new IllegalArgumentException();
        }
        isRead = true;
        return entries.total;
    }

    /** The fault of the latest open(), 0 when it had none or there was no open() yet. */
    public int fault() {
        return latestFault;
    }

    /** Of what is read: sections (0), units (1), entries (2), ranges (3), rows (4), symbols (5). */
    public int count(int what) {
        if (!isRead) {
            return NONE;
        }
        switch (what) {
            case 0: return sections.total;
            case 1: return entries.units;
            case 2: return entries.total;
            case 3: return ranges.total;
            case 4: return rows.total;
            case 5: return symbols.total;
            default: return NONE;
        }
    }

    /** The chain of an address: how many frames. */
    public int find(long address) throws IllegalStateException {
        if (!isRead) {
            throw new IllegalStateException();
        }
        return frames.build(address);
    }

    /** Character k of the name of frame i of the latest find(), from the innermost. */
    public int name(int i, int k) {
        return frames.has(i) ? character(frames.nameAt[i], frames.nameEnd[i], k) : NONE;
    }

    /** Character k of the name of the file of frame i. */
    public int file(int i, int k) {
        return frames.has(i) ? character(frames.fileAt[i], frames.fileEnd[i], k) : NONE;
    }

    /** The line of frame i. */
    public int line(int i) {
        return frames.has(i) ? frames.lineOf[i] : NONE;
    }

    private void forget() {
        isRead = false;
        frames.total = 0;
    }

    private int character(int at, int end, int k) {
        return k < 0 || k >= end - at ? NONE : image[at + k] & 0xFF;
    }

    private static boolean isBelow(long a, long b) {
        return (a ^ TOP_BIT) < (b ^ TOP_BIT);
    }

    private static int indexOf(int[] numbers, long wanted) {
        for (int i = 0; i < numbers.length; i++) {
            if (numbers[i] == wanted) {
                return i;
            }
        }
        return NONE;
    }

    /** A place in a window of the file; once something does not end within, it is bad until set anew. */
    private static final class Cursor {
        private final byte[] image;
        private int at;
        private int end;
        private boolean bad;

        Cursor(byte[] image) {
            this.image = image;
        }

        void set(int from, int to) {
            at = from;
            end = to;
            bad = false;
        }

        /** A number without sign of n bytes. */
        long number(int n) {
            if (bad || end - at < n) {
                bad = true;
                return 0;
            }
            long value = 0;
            for (int i = n - 1; i >= 0; i--) {
                value = (value << 8) | (image[at + i] & 0xFF);
            }
            at += n;
            return value;
        }

        long uleb() {
            return leb(false);
        }

        long sleb() {
            return leb(true);
        }

        private long leb(boolean signed) {
            long value = 0;
            for (int i = 0; i < MAX_ULEB && !bad && at < end; i++) {
                int b = image[at] & 0xFF;
                at++;
                // Behind bit 63 the shift itself loses what is too high.
                value |= (long) (b & 0x7F) << (7 * i);
                if (b < 0x80) {
                    boolean fill = signed && (b & 0x40) != 0 && i + 1 < MAX_ULEB;
                    return fill ? value | (-1L << (7 * (i + 1))) : value;
                }
            }
            bad = true;
            return 0;
        }

        /** Goes behind the text that stands here: where it begins. */
        int text() {
            int start = at;
            for (int i = at; i < end && !bad; i++) {
                if (image[i] == 0) {
                    at = i + 1;
                    return start;
                }
            }
            bad = true;
            return start;
        }

        /** Passes n bytes, n without sign. */
        void skip(long n) {
            if (bad || n < 0 || n > end - at) {
                bad = true;
            } else {
                at += (int) n;
            }
        }
    }

    /** Where in the file each section lies. */
    private static final class Sections {
        private final byte[] image;
        private final Cursor cursor;
        private final int[] from = new int[MAX_SECTIONS];
        private final int[] to = new int[MAX_SECTIONS];
        private final long[] namePlace = new long[MAX_SECTIONS];
        private final int[] chosenFrom = new int[LOOKED_AT];
        private final int[] chosenTo = new int[LOOKED_AT];
        private final boolean[] isChosen = new boolean[LOOKED_AT];
        private int total;
        private int headersAt;
        private int namesIndex;

        Sections(byte[] image) {
            this.image = image;
            cursor = new Cursor(image);
        }

        /** False when there is a fault in them. */
        boolean read(int length) {
            if (!readHead(length)) {
                return false;
            }
            for (int i = 0; i < total; i++) {
                if (!readHeader(i, length)) {
                    return false;
                }
            }
            return readNames();
        }

        /** Sets a cursor to a place in a section that is looked at; it is bad when that is not there. */
        void point(Cursor c, int section, long place) {
            int start = chosenFrom[section];
            int stop = chosenTo[section];
            boolean there = place >= 0 && place <= stop - start;
            c.at = there ? start + (int) place : stop;
            c.end = stop;
            c.bad = !there;
        }

        /** Where in the file the text at a place in a section begins, NONE when it is not there. */
        int textAt(int section, long place) {
            point(cursor, section, place);
            int at = cursor.text();
            return cursor.bad ? NONE : at;
        }

        private boolean readHead(int length) {
            if (length < HEADER_BYTES) {
                return false;
            }
            for (int i = 0; i < MAGIC.length; i++) {
                if (image[i] != MAGIC[i]) {
                    return false;
                }
            }
            cursor.set(0x28, length);
            long begin = cursor.number(8);
            cursor.set(0x3A, length);
            long size = cursor.number(2);
            total = (int) cursor.number(2);
            namesIndex = (int) cursor.number(2);
            if (size != HEADER_BYTES || total < 1 || total > MAX_SECTIONS || namesIndex >= total) {
                return false;
            }
            if (begin < 0 || begin > length - HEADER_BYTES * total) {
                return false;
            }
            headersAt = (int) begin;
            return true;
        }

        private boolean readHeader(int i, int length) {
            cursor.set(headersAt + HEADER_BYTES * i, length);
            namePlace[i] = cursor.number(4);
            long kind = cursor.number(4);
            cursor.skip(16);
            long begin = cursor.number(8);
            long size = cursor.number(8);
            if (kind == KIND_NO_BYTES) {
                from[i] = 0;
                to[i] = 0;
                return true;
            }
            if (begin < 0 || begin > length || size < 0 || size > length - begin) {
                return false;
            }
            from[i] = (int) begin;
            to[i] = (int) (begin + size);
            return true;
        }

        private boolean readNames() {
            for (int s = 0; s < LOOKED_AT; s++) {
                chosenFrom[s] = 0;
                chosenTo[s] = 0;
                isChosen[s] = false;
            }
            for (int i = 0; i < total; i++) {
                cursor.set(from[namesIndex], to[namesIndex]);
                cursor.skip(namePlace[i]);
                int at = cursor.text();
                if (cursor.bad) {
                    return false;
                }
                choose(i, at, cursor.at - 1);
            }
            return true;
        }

        private void choose(int i, int nameAt, int nameEnd) {
            for (int s = 0; s < LOOKED_AT; s++) {
                if (!isChosen[s] && isCalled(nameAt, nameEnd, titleOf(s))) {
                    isChosen[s] = true;
                    chosenFrom[s] = from[i];
                    chosenTo[s] = to[i];
                }
            }
        }

        private boolean isCalled(int at, int end, String title) {
            if (end - at != title.length()) {
                return false;
            }
            for (int k = 0; k < title.length(); k++) {
                if (image[at + k] != title.charAt(k)) {
                    return false;
                }
            }
            return true;
        }

        private static String titleOf(int section) {
            switch (section) {
                case ABBREV: return ".debug_abbrev";
                case INFO: return ".debug_info";
                case STR: return ".debug_str";
                case LINE_STR: return ".debug_line_str";
                case STR_OFFSETS: return ".debug_str_offsets";
                case ADDR: return ".debug_addr";
                case RNGLISTS: return ".debug_rnglists";
                case LINE_TABLE: return ".debug_line";
                case SYMTAB: return ".symtab";
                default: return ".strtab";
            }
        }
    }

    /** The abbreviations of one unit. */
    private static final class Abbreviations {
        private final long[] number = new long[MAX_ABBREVIATIONS];
        private final long[] tag = new long[MAX_ABBREVIATIONS];
        private final boolean[] hasChildren = new boolean[MAX_ABBREVIATIONS];
        private final int[] attributes = new int[MAX_ABBREVIATIONS];
        private final long[] attribute = new long[MAX_ABBREVIATIONS * MAX_ATTRIBUTES];
        private final int[] form = new int[MAX_ABBREVIATIONS * MAX_ATTRIBUTES];
        private final long[] constant = new long[MAX_ABBREVIATIONS * MAX_ATTRIBUTES];
        private int total;

        /** False when there is a fault in them. */
        boolean read(Cursor c) {
            total = 0;
            for (int i = 0; i <= MAX_ABBREVIATIONS; i++) {
                long next = c.uleb();
                if (c.bad) {
                    return false;
                }
                if (next == 0) {
                    return true;
                }
                if (total == MAX_ABBREVIATIONS || withNumber(next) != NONE) {
                    return false;
                }
                number[total] = next;
                if (!readOne(c)) {
                    return false;
                }
                total++;
            }
            return false;
        }

        int withNumber(long wanted) {
            for (int a = 0; a < total; a++) {
                if (number[a] == wanted) {
                    return a;
                }
            }
            return NONE;
        }

        private boolean readOne(Cursor c) {
            tag[total] = c.uleb();
            long children = c.number(1);
            if (c.bad || children > 1) {
                return false;
            }
            hasChildren[total] = children == 1;
            for (int i = 0; i <= MAX_ATTRIBUTES; i++) {
                long what = c.uleb();
                long how = c.uleb();
                if (c.bad) {
                    return false;
                }
                if (what == 0 && how == 0) {
                    attributes[total] = i;
                    return true;
                }
                if (i == MAX_ATTRIBUTES || !isForm(how)) {
                    return false;
                }
                int at = total * MAX_ATTRIBUTES + i;
                attribute[at] = what;
                form[at] = (int) how;
                constant[at] = how == FORM_CONSTANT ? c.sleb() : 0;
            }
            return false;
        }

        private static boolean isForm(long form) {
            return form == FORM_ADDRESS || isConstantForm(form) || isTextForm(form) || form == FORM_ENTRY
                || form == FORM_PLACE || form == FORM_BYTES || form == FORM_ADDRESS_INDEX || form == FORM_LIST_INDEX;
        }

        static boolean isConstantForm(long form) {
            return form == FORM_U1 || form == FORM_U2 || form == FORM_U4 || form == FORM_U8 || form == FORM_SLEB
                || form == FORM_ULEB || form == FORM_CONSTANT || form == FORM_ONE;
        }

        private static boolean isTextForm(long form) {
            return form == FORM_TEXT || form == FORM_STR || form == FORM_LINE_STR || form == FORM_STR_INDEX;
        }
    }

    /** The entries of all units, and of each the first value of every attribute that counts. */
    private static final class Entries {
        private final long[] tag = new long[MAX_ENTRIES];
        private final int[] parent = new int[MAX_ENTRIES];
        private final int[] unit = new int[MAX_ENTRIES];
        private final int[] place = new int[MAX_ENTRIES];
        // Form 0 says that the entry has no such attribute.
        private final int[] form = new int[MAX_ENTRIES * SLOTS];
        private final long[] value = new long[MAX_ENTRIES * SLOTS];
        private final int[] unitPlace = new int[MAX_UNITS];
        private final int[] unitEntry = new int[MAX_UNITS];
        private final int[] unitForm = new int[MAX_UNITS * UNIT_SLOTS];
        private final long[] unitValue = new long[MAX_UNITS * UNIT_SLOTS];
        private int total;
        private int units;

        void forgetAll() {
            total = 0;
            units = 0;
        }

        /** The room must have been looked at before. */
        void addUnit(int at) {
            unitPlace[units] = at;
            unitEntry[units] = total;
            for (int s = 0; s < UNIT_SLOTS; s++) {
                unitForm[units * UNIT_SLOTS + s] = 0;
                unitValue[units * UNIT_SLOTS + s] = 0;
            }
            units++;
        }

        /** Adds an entry of the latest unit; the room must have been looked at before. */
        void add(long newTag, int newParent, int at) {
            tag[total] = newTag;
            parent[total] = newParent;
            unit[total] = units - 1;
            place[total] = at;
            for (int s = 0; s < SLOTS; s++) {
                form[total * SLOTS + s] = 0;
            }
            total++;
        }

        /** Keeps what counts of a value of the latest entry. */
        void keep(long attribute, int newForm, long newValue) {
            int e = total - 1;
            int slot = indexOf(ATTRIBUTES, attribute);
            int unitSlot = indexOf(UNIT_ATTRIBUTES, attribute);
            if (slot != NONE && isLookedAt(e)) {
                keepFirst(form, value, e * SLOTS + slot, newForm, newValue);
            }
            if (unitSlot != NONE && tag[e] == TAG_UNIT) {
                keepFirst(unitForm, unitValue, unit[e] * UNIT_SLOTS + unitSlot, newForm, newValue);
            }
        }

        boolean isLookedAt(int e) {
            return tag[e] == TAG_UNIT || tag[e] == TAG_FUNCTION || tag[e] == TAG_PUT_IN || tag[e] == TAG_BLOCK;
        }

        boolean has(int e, int slot) {
            return form[e * SLOTS + slot] != 0;
        }

        long valueOf(int e, int slot) {
            return value[e * SLOTS + slot];
        }

        /** Whether the entry says at all where it lies. */
        boolean hasPlaces(int e) {
            return has(e, RANGE_LIST) || has(e, LOW) && has(e, HIGH);
        }

        private static void keepFirst(int[] forms, long[] values, int at, int newForm, long newValue) {
            if (forms[at] == 0) {
                forms[at] = newForm;
                values[at] = newValue;
            }
        }
    }

    /** Reads .debug_info into the entries, their values as they stand there. */
    private static final class UnitReader {
        private final Sections sections;
        private final Entries entries;
        private final Abbreviations abbreviations;
        private final Cursor info;
        private final Cursor table;
        private int latest;
        private int depth;

        UnitReader(byte[] image, Sections sections, Entries entries) {
            this.sections = sections;
            this.entries = entries;
            abbreviations = new Abbreviations();
            info = new Cursor(image);
            table = new Cursor(image);
        }

        /** False when there is a fault in them. */
        boolean read() {
            entries.forgetAll();
            sections.point(info, INFO, 0);
            int end = info.end;
            for (int u = 0; u <= MAX_UNITS && info.at < end; u++) {
                if (u == MAX_UNITS || !readHead() || !readEntries()) {
                    return false;
                }
                info.end = end;
            }
            return true;
        }

        /** Leaves the cursor's window at the unit's end. */
        private boolean readHead() {
            int start = info.at;
            long size = info.number(4);
            if (info.bad || size > info.end - info.at) {
                return false;
            }
            info.end = info.at + (int) size;
            if (info.number(2) != 5 || info.number(1) != 1 || info.number(1) != 8) {
                return false;
            }
            long place = info.number(4);
            if (info.bad) {
                return false;
            }
            entries.addUnit(start);
            sections.point(table, ABBREV, place);
            return abbreviations.read(table);
        }

        private boolean readEntries() {
            latest = NONE;
            depth = 0;
            int first = entries.total;
            for (int i = 0; i < MAX_BYTES && info.at < info.end; i++) {
                int start = info.at;
                long number = info.uleb();
                if (info.bad) {
                    return false;
                }
                boolean fine = number == 0 ? endChildren() : readEntry(number, start, entries.total == first);
                if (!fine) {
                    return false;
                }
            }
            return depth == 0 && entries.total > first;
        }

        private boolean endChildren() {
            if (depth == 0) {
                return false;
            }
            depth--;
            latest = entries.parent[latest];
            return true;
        }

        private boolean readEntry(long number, int start, boolean isFirst) {
            int a = abbreviations.withNumber(number);
            if (a == NONE || entries.total == MAX_ENTRIES) {
                return false;
            }
            boolean isUnit = abbreviations.tag[a] == TAG_UNIT;
            if (isUnit != isFirst || !isFirst && depth == 0) {
                return false;
            }
            entries.add(abbreviations.tag[a], latest, start);
            int from = a * MAX_ATTRIBUTES;
            for (int i = from; i < from + abbreviations.attributes[a] && !info.bad; i++) {
                int form = abbreviations.form[i];
                entries.keep(abbreviations.attribute[i], form, readValue(form, abbreviations.constant[i]));
            }
            if (abbreviations.hasChildren[a]) {
                latest = entries.total - 1;
                depth++;
            }
            return !info.bad && depth <= MAX_OPEN;
        }

        /** A text that stands here is where it begins in the file; all else is the number that stands here. */
        private long readValue(int form, long constant) {
            switch (form) {
                case FORM_ADDRESS:
                case FORM_U8:
                    return info.number(8);
                case FORM_U1:
                case FORM_STR_INDEX:
                    return info.number(1);
                case FORM_U2:
                    return info.number(2);
                case FORM_SLEB:
                    return info.sleb();
                case FORM_ULEB:
                case FORM_ADDRESS_INDEX:
                case FORM_LIST_INDEX:
                    return info.uleb();
                case FORM_CONSTANT:
                    return constant;
                case FORM_ONE:
                    return 1;
                case FORM_TEXT:
                    return info.text();
                case FORM_BYTES:
                    info.skip(info.uleb());
                    return 0;
                default:
                    return info.number(4);
            }
        }
    }

    /** The ranges of all entries. */
    private static final class Ranges {
        private final long[] from = new long[MAX_RANGES];
        private final long[] to = new long[MAX_RANGES];
        private final int[] firstOf = new int[MAX_ENTRIES];
        private final int[] behindOf = new int[MAX_ENTRIES];
        private int total;

        /** The entry has the ranges that are added from here on to its end(). */
        void begin(int e) {
            firstOf[e] = total;
        }

        void end(int e) {
            behindOf[e] = total;
        }

        /** False when there is no room. */
        boolean add(long newFrom, long newTo) {
            if (total == MAX_RANGES) {
                return false;
            }
            from[total] = newFrom;
            to[total] = newTo;
            total++;
            return true;
        }

        boolean hold(int e, long address) {
            for (int r = firstOf[e]; r < behindOf[e]; r++) {
                if (!isBelow(address, from[r]) && isBelow(address, to[r])) {
                    return true;
                }
            }
            return false;
        }
    }

    /** Puts in the place of each value that was read what it leads to, and finds the ranges. */
    private static final class ValueReader {
        private final Sections sections;
        private final Entries entries;
        private final Ranges ranges;
        private final Cursor list;
        private final Cursor side;
        private long base;
        private boolean bad;

        ValueReader(byte[] image, Sections sections, Entries entries, Ranges ranges) {
            this.sections = sections;
            this.entries = entries;
            this.ranges = ranges;
            list = new Cursor(image);
            side = new Cursor(image);
        }

        /** False when there is a fault in them. */
        boolean read() {
            bad = false;
            ranges.total = 0;
            for (int i = 0; i < entries.units * UNIT_SLOTS; i++) {
                int form = entries.unitForm[i];
                if (form != 0 && form != FORM_PLACE) {
                    return false;
                }
            }
            for (int e = 0; e < entries.total && !bad; e++) {
                ranges.begin(e);
                if (entries.isLookedAt(e)) {
                    resolve(e);
                }
                if (entries.has(e, RANGE_LIST)) {
                    readList(e);
                } else if (entries.hasPlaces(e)) {
                    addRange(entries.valueOf(e, LOW), entries.valueOf(e, HIGH));
                }
                ranges.end(e);
            }
            return !bad;
        }

        private void resolve(int e) {
            for (int slot = 0; slot < SLOTS; slot++) {
                if (entries.has(e, slot)) {
                    int at = e * SLOTS + slot;
                    entries.value[at] = resolved(e, slot, entries.form[at], entries.value[at]);
                }
            }
        }

        private long resolved(int e, int slot, int form, long value) {
            int unit = entries.unit[e];
            switch (slot) {
                case NAME:
                    return text(unit, form, value);
                case LOW:
                    return address(unit, form, value);
                case HIGH:
                    // The slots are resolved in their order, so low is an address already.
                    return Abbreviations.isConstantForm(form) ? lowOf(e) + value : address(unit, form, value);
                case RANGE_LIST:
                    return listPlace(unit, form, value);
                case ORIGIN:
                    return origin(unit, form, value);
                default:
                    return Abbreviations.isConstantForm(form) ? value : wrong();
            }
        }

        /** 0 without. */
        private long lowOf(int e) {
            return entries.has(e, LOW) ? entries.valueOf(e, LOW) : 0;
        }

        private long text(int unit, int form, long value) {
            switch (form) {
                case FORM_TEXT:
                    return value;
                case FORM_STR:
                    return textAt(STR, value);
                case FORM_LINE_STR:
                    return textAt(LINE_STR, value);
                case FORM_STR_INDEX:
                    return textAt(STR, numberAt(STR_OFFSETS, baseOf(unit, STR_BASE), value, 4));
                default:
                    return wrong();
            }
        }

        private long textAt(int section, long place) {
            int at = sections.textAt(section, place);
            return at == NONE ? wrong() : at;
        }

        private long address(int unit, int form, long value) {
            if (form == FORM_ADDRESS) {
                return value;
            }
            return form == FORM_ADDRESS_INDEX ? addressAt(unit, value) : wrong();
        }

        private long listPlace(int unit, int form, long value) {
            if (form == FORM_PLACE) {
                return value;
            }
            long start = baseOf(unit, LIST_BASE);
            return form == FORM_LIST_INDEX ? start + numberAt(RNGLISTS, start, value, 4) : wrong();
        }

        /** The entry that begins there. */
        private long origin(int unit, int form, long value) {
            if (form != FORM_ENTRY) {
                return wrong();
            }
            for (int e = entries.unitEntry[unit]; e < entries.total && entries.unit[e] == unit; e++) {
                boolean isFunction = entries.tag[e] == TAG_FUNCTION || entries.tag[e] == TAG_PUT_IN;
                if (isFunction && entries.place[e] - entries.unitPlace[unit] == value) {
                    return e;
                }
            }
            return wrong();
        }

        private void readList(int e) {
            int unit = entries.unit[e];
            base = lowOf(entries.unitEntry[unit]);
            sections.point(list, RNGLISTS, entries.valueOf(e, RANGE_LIST));
            for (int i = 0; i < MAX_BYTES && !bad; i++) {
                int kind = (int) list.number(1);
                if (kind == 0 && !list.bad) {
                    return;
                }
                readPiece(unit, kind);
                bad = bad || list.bad;
            }
        }

        private void readPiece(int unit, int kind) {
            if (kind == 1) {
                base = addressAt(unit, list.uleb());
            } else if (kind == 5) {
                base = list.number(8);
            } else if (kind == 4) {
                long from = base + list.uleb();
                addRange(from, base + list.uleb());
            } else if (kind == 2 || kind == 3 || kind == 6 || kind == 7) {
                long from = kind < 4 ? addressAt(unit, list.uleb()) : list.number(8);
                addRange(from, rangeEnd(unit, kind, from));
            } else {
                wrong();
            }
        }

        private long rangeEnd(int unit, int kind, long from) {
            if (kind == 2) {
                return addressAt(unit, list.uleb());
            }
            return kind == 6 ? list.number(8) : from + list.uleb();
        }

        private void addRange(long from, long to) {
            if (!ranges.add(from, to)) {
                wrong();
            }
        }

        private long addressAt(int unit, long index) {
            return numberAt(ADDR, baseOf(unit, ADDR_BASE), index, 8);
        }

        private long baseOf(int unit, int slot) {
            return entries.unitValue[unit * UNIT_SLOTS + slot];
        }

        /** The number of so many bytes that is the index-th from a place in a section on. */
        private long numberAt(int section, long start, long index, int size) {
            // No section has so many, and the place would wrap.
            if (index < 0 || index > MAX_BYTES) {
                return wrong();
            }
            sections.point(side, section, start + index * size);
            long number = side.number(size);
            bad = bad || side.bad;
            return number;
        }

        private long wrong() {
            bad = true;
            return 0;
        }
    }

    /** The rows and the files of all units. */
    private static final class Rows {
        private final long[] address = new long[MAX_ROWS];
        private final long[] fileOf = new long[MAX_ROWS];
        private final int[] lineOf = new int[MAX_ROWS];
        private final boolean[] isEnd = new boolean[MAX_ROWS];
        private final int[] firstOf = new int[MAX_UNITS];
        private final int[] behindOf = new int[MAX_UNITS];
        private final int[] files = new int[MAX_UNITS];
        private final int[] fileName = new int[MAX_UNITS * MAX_FILES];
        private int total;

        void forgetAll() {
            total = 0;
        }

        void begin(int unit) {
            firstOf[unit] = total;
            files[unit] = 0;
        }

        void end(int unit) {
            behindOf[unit] = total;
        }

        /** False when there is no room. */
        boolean add(long newAddress, long newFile, int newLine, boolean newEnd) {
            if (total == MAX_ROWS) {
                return false;
            }
            address[total] = newAddress;
            fileOf[total] = newFile;
            lineOf[total] = newLine;
            isEnd[total] = newEnd;
            total++;
            return true;
        }

        /** The room must have been looked at before. */
        void addFile(int unit, int at) {
            fileName[unit * MAX_FILES + files[unit]] = at;
            files[unit]++;
        }

        /** Where the name of a unit's file begins, NONE without. */
        int nameOfFile(int unit, long number) {
            return number >= 0 && number < files[unit] ? fileName[unit * MAX_FILES + (int) number] : NONE;
        }

        /** The row of an address, NONE without. */
        int rowOf(int unit, long wanted) {
            int first = firstOf[unit];
            for (int r = first; r < behindOf[unit]; r++) {
                if (isEnd[r]) {
                    if (!isBelow(wanted, address[first]) && isBelow(wanted, address[r])) {
                        return lastNotAbove(first, r, wanted);
                    }
                    first = r + 1;
                }
            }
            return NONE;
        }

        private int lastNotAbove(int first, int behind, long wanted) {
            for (int r = behind - 1; r >= first; r--) {
                if (!isBelow(wanted, address[r])) {
                    return r;
                }
            }
            return NONE;
        }
    }

    /** Reads .debug_line into the rows. */
    private static final class LineReader {
        private final Sections sections;
        private final Entries entries;
        private final Rows rows;
        private final byte[] image;
        private final Cursor cursor;
        private final int[] forms = new int[MAX_LINE_FORMS];
        private int formsTotal;
        private int nameForm;
        private int lineBase;
        private int lineRange;
        private int firstSpecial;
        private int operandsAt;
        private long address;
        private long fileNow;
        private int lineNow;

        LineReader(byte[] image, Sections sections, Entries entries, Rows rows) {
            this.image = image;
            this.sections = sections;
            this.entries = entries;
            this.rows = rows;
            cursor = new Cursor(image);
        }

        /** False when there is a fault in them. */
        boolean read() {
            rows.forgetAll();
            for (int unit = 0; unit < entries.units; unit++) {
                rows.begin(unit);
                int at = unit * UNIT_SLOTS + LINES;
                if (entries.unitForm[at] != 0 && !readTable(unit, entries.unitValue[at])) {
                    return false;
                }
                rows.end(unit);
            }
            return true;
        }

        private boolean readTable(int unit, long place) {
            sections.point(cursor, LINE_TABLE, place);
            long size = cursor.number(4);
            if (cursor.bad || size > cursor.end - cursor.at) {
                return false;
            }
            cursor.end = cursor.at + (int) size;
            if (cursor.number(2) != 5 || cursor.number(1) != 8 || cursor.number(1) != 0) {
                return false;
            }
            long headSize = cursor.number(4);
            long headEnd = cursor.at + headSize;
            boolean fine = readHead() && readNames(unit, false) && readNames(unit, true);
            if (!fine || headEnd < cursor.at || headEnd > cursor.end) {
                return false;
            }
            cursor.at = (int) headEnd;
            return readProgram();
        }

        private boolean readHead() {
            if (cursor.number(1) != 1 || cursor.number(1) != 1) {
                return false;
            }
            cursor.skip(1);
            lineBase = (byte) cursor.number(1);
            lineRange = (int) cursor.number(1);
            firstSpecial = (int) cursor.number(1);
            operandsAt = cursor.at;
            cursor.skip(firstSpecial - 1);
            return !cursor.bad && lineRange != 0 && firstSpecial >= 10 && firstSpecial <= 200;
        }

        /** Reads the folders, or the files. */
        private boolean readNames(int unit, boolean areFiles) {
            if (!readForms()) {
                return false;
            }
            long total = cursor.uleb();
            if (cursor.bad) {
                return false;
            }
            // Folders without forms take no bytes, so their number may be beyond all that could be read.
            if (formsTotal == 0 && !areFiles) {
                return true;
            }
            if (total < 0 || total > (areFiles ? MAX_FILES : MAX_BYTES)) {
                return false;
            }
            for (int i = 0; i < total && !cursor.bad; i++) {
                int at = readName();
                if (areFiles) {
                    rows.addFile(unit, at);
                }
            }
            return !cursor.bad;
        }

        private boolean readForms() {
            formsTotal = (int) cursor.number(1);
            nameForm = NONE;
            if (cursor.bad || formsTotal > MAX_LINE_FORMS) {
                return false;
            }
            for (int i = 0; i < formsTotal; i++) {
                long what = cursor.uleb();
                long form = cursor.uleb();
                boolean isText = form == FORM_TEXT || form == FORM_LINE_STR;
                boolean isName = what == 1 && nameForm == NONE;
                if (cursor.bad || isName && !isText) {
                    return false;
                }
                if (!isText && form != FORM_U1 && form != FORM_U2 && form != FORM_ULEB) {
                    return false;
                }
                forms[i] = (int) form;
                nameForm = isName ? i : nameForm;
            }
            return true;
        }

        /** Where the name of the folder or file that stands here begins, NONE without. */
        private int readName() {
            int at = NONE;
            for (int i = 0; i < formsTotal && i < MAX_LINE_FORMS; i++) {
                long value = readValue(forms[i]);
                if (i == nameForm) {
                    at = forms[i] == FORM_TEXT ? (int) value : sections.textAt(LINE_STR, value);
                    cursor.bad = cursor.bad || at == NONE;
                }
            }
            return at;
        }

        private long readValue(int form) {
            switch (form) {
                case FORM_TEXT: return cursor.text();
                case FORM_LINE_STR: return cursor.number(4);
                case FORM_U1: return cursor.number(1);
                case FORM_U2: return cursor.number(2);
                default: return cursor.uleb();
            }
        }

        private boolean readProgram() {
            restart();
            for (int i = 0; i < MAX_BYTES && cursor.at < cursor.end && !cursor.bad; i++) {
                int code = (int) cursor.number(1);
                if (code >= firstSpecial) {
                    special(code - firstSpecial);
                } else if (code == 0) {
                    extended();
                } else {
                    standard(code);
                }
            }
            return !cursor.bad;
        }

        private void restart() {
            address = 0;
            fileNow = 1;
            lineNow = 1;
        }

        private void addRow(boolean isEnd) {
            if (!rows.add(address, fileNow, lineNow, isEnd)) {
                cursor.bad = true;
            }
        }

        private void special(int s) {
            address += s / lineRange;
            lineNow += lineBase + s % lineRange;
            addRow(false);
        }

        private void extended() {
            long size = cursor.uleb();
            int start = cursor.at;
            int what = (int) cursor.number(1);
            int least = what == 2 ? 9 : 1;
            if (cursor.bad || size < least || size > cursor.end - start) {
                cursor.bad = true;
                return;
            }
            if (what == 1) {
                addRow(true);
                restart();
            } else if (what == 2) {
                address = cursor.number(8);
            }
            cursor.at = start + (int) size;
        }

        private void standard(int code) {
            switch (code) {
                case 1:
                    addRow(false);
                    break;
                case 2:
                    address += cursor.uleb();
                    break;
                case 3:
                    lineNow += (int) cursor.sleb();
                    break;
                case 4:
                    fileNow = cursor.uleb();
                    break;
                case 5:
                case 12:
                    cursor.uleb();
                    break;
                case 6:
                case 7:
                case 10:
                case 11:
                    break;
                case 8:
                    address += (255 - firstSpecial) / lineRange;
                    break;
                case 9:
                    address += cursor.number(2);
                    break;
                default:
                    passOperands(code);
            }
        }

        private void passOperands(int code) {
            int operands = image[operandsAt + code - 1] & 0xFF;
            for (int i = 0; i < operands && !cursor.bad; i++) {
                cursor.uleb();
            }
        }
    }

    /** The symbols, in their order. */
    private static final class Symbols {
        private final Sections sections;
        private final Cursor cursor;
        private final int[] nameAt = new int[MAX_SYMBOLS];
        private final boolean[] isFunction = new boolean[MAX_SYMBOLS];
        private final long[] from = new long[MAX_SYMBOLS];
        private final long[] to = new long[MAX_SYMBOLS];
        private int total;

        Symbols(byte[] image, Sections sections) {
            this.sections = sections;
            cursor = new Cursor(image);
        }

        /** False when there is a fault in them. */
        boolean read() {
            total = 0;
            sections.point(cursor, SYMTAB, 0);
            int size = cursor.end - cursor.at;
            if (size % SYMBOL_BYTES != 0 || size / SYMBOL_BYTES > MAX_SYMBOLS) {
                return false;
            }
            for (int i = 0; i < size / SYMBOL_BYTES; i++) {
                if (!readOne()) {
                    return false;
                }
                total++;
            }
            return true;
        }

        /** The first one that covers an address, NONE without. */
        int covering(long address) {
            for (int s = 0; s < total; s++) {
                if (isFunction[s] && !isBelow(address, from[s]) && isBelow(address, to[s])) {
                    return s;
                }
            }
            return NONE;
        }

        private boolean readOne() {
            nameAt[total] = sections.textAt(STRTAB, cursor.number(4));
            isFunction[total] = (cursor.number(1) & 0x0F) == SYMBOL_FUNCTION;
            cursor.skip(3);
            from[total] = cursor.number(8);
            to[total] = from[total] + cursor.number(8);
            return !cursor.bad && nameAt[total] != NONE;
        }
    }

    /** The frames of the latest chain, the innermost first. */
    private static final class Frames {
        private final byte[] image;
        private final Entries entries;
        private final Ranges ranges;
        private final Rows rows;
        private final Symbols symbols;
        private final int[] chain = new int[MAX_FRAMES];
        private final int[] nameAt = new int[MAX_FRAMES];
        private final int[] nameEnd = new int[MAX_FRAMES];
        private final int[] fileAt = new int[MAX_FRAMES];
        private final int[] fileEnd = new int[MAX_FRAMES];
        private final int[] lineOf = new int[MAX_FRAMES];
        private int total;

        Frames(byte[] image, Entries entries, Ranges ranges, Rows rows, Symbols symbols) {
            this.image = image;
            this.entries = entries;
            this.ranges = ranges;
            this.rows = rows;
            this.symbols = symbols;
        }

        boolean has(int i) {
            return i >= 0 && i < total;
        }

        /** The chain of an address: how many frames. */
        int build(long address) {
            total = 0;
            int function = firstFunction(address);
            if (function != NONE) {
                addChain(function, address);
                return total;
            }
            int symbol = symbols.covering(address);
            if (symbol != NONE) {
                add(symbols.nameAt[symbol], NONE, 0);
            }
            return total;
        }

        private int firstFunction(long address) {
            for (int e = 0; e < entries.total; e++) {
                if (entries.tag[e] == TAG_FUNCTION && ranges.hold(e, address)) {
                    return e;
                }
            }
            return NONE;
        }

        private void addChain(int function, long address) {
            int links = 0;
            int next = function;
            for (int i = 0; i < MAX_FRAMES && next != NONE; i++) {
                chain[i] = next;
                links = i + 1;
                next = firstPutInto(next, address);
            }
            addInnermost(chain[links - 1], address);
            for (int i = links - 2; i >= 0; i--) {
                addAround(chain[i], chain[i + 1]);
            }
        }

        private int firstPutInto(int host, long address) {
            for (int e = host + 1; e < entries.total; e++) {
                if (entries.tag[e] == TAG_PUT_IN && ranges.hold(e, address) && isIn(e, host, address)) {
                    return e;
                }
            }
            return NONE;
        }

        /** Whether an entry is in another directly, or by blocks only that don't shut the address out. */
        private boolean isIn(int e, int host, long address) {
            int around = entries.parent[e];
            for (int i = 0; i < MAX_OPEN && around != host; i++) {
                if (around == NONE || entries.tag[around] != TAG_BLOCK) {
                    return false;
                }
                if (entries.hasPlaces(around) && !ranges.hold(around, address)) {
                    return false;
                }
                around = entries.parent[around];
            }
            return around == host;
        }

        private void addInnermost(int e, long address) {
            int unit = entries.unit[e];
            int row = rows.rowOf(unit, address);
            if (row == NONE) {
                add(nameOf(e), NONE, 0);
            } else {
                add(nameOf(e), rows.nameOfFile(unit, rows.fileOf[row]), rows.lineOf[row]);
            }
        }

        private void addAround(int e, int putIn) {
            boolean hasFile = entries.has(putIn, CALL_FILE);
            int fileName = hasFile ? rows.nameOfFile(entries.unit[e], entries.valueOf(putIn, CALL_FILE)) : NONE;
            add(nameOf(e), fileName, entries.has(putIn, CALL_LINE) ? (int) entries.valueOf(putIn, CALL_LINE) : 0);
        }

        /** Where the name of an entry, or of the nearest origin that has one, begins; NONE without. */
        private int nameOf(int e) {
            int now = e;
            for (int i = 0; i <= MAX_ORIGINS; i++) {
                if (entries.has(now, NAME)) {
                    return (int) entries.valueOf(now, NAME);
                }
                if (!entries.has(now, ORIGIN)) {
                    return NONE;
                }
                now = (int) entries.valueOf(now, ORIGIN);
            }
            return NONE;
        }

        private void add(int nameStart, int fileStart, int newLine) {
            nameAt[total] = nameStart;
            nameEnd[total] = textEnd(nameStart);
            fileAt[total] = fileStart;
            fileEnd[total] = textEnd(fileStart);
            lineOf[total] = newLine;
            total++;
        }

        /** Without a text an end that leaves it no character. */
        private int textEnd(int start) {
            if (start == NONE) {
                return NONE;
            }
            int end = start;
            while (end < MAX_BYTES && image[end] != 0) {
                end++;
            }
            return end;
        }
    }
}
