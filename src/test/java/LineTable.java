/** A table of lines, whose parts can be bent before it is built. */
final class LineTable {
    int version = 5;
    int addressSize = 8;
    int selectorSize = 0;
    int leastStep = 1;
    int operations = 1;
    int rowsCount = 7;
    int lineBase = -3;
    int lineRange = 10;
    int first = 13;
    Bytes operands = new Bytes().raw(0, 1, 1, 1, 1, 0, 0, 0, 1, 0, 0, 1);
    Bytes folders = new Bytes().u1(1).uleb(1).uleb(0x08).uleb(1).text("d");
    Bytes files = new Bytes().u1(1).uleb(1).uleb(0x08).uleb(2).text("a.c").text("b.h");
    Bytes program = new Bytes();
    /** Bytes between what is read of the head and its end, and how much more its length says. */
    Bytes gap = new Bytes();
    int moreHead = 0;
    int moreLength = 0;
    private long lineNow = 1;

    LineTable row(long address, long line) {
        program.raw(0).uleb(9).u1(2).u8(address).u1(3).sleb(line - lineNow).u1(1);
        lineNow = line;
        return this;
    }

    /** An end at an address. */
    LineTable end(long address) {
        program.raw(0).uleb(9).u1(2).u8(address).raw(0, 1, 1);
        lineNow = 1;
        return this;
    }

    Bytes build() {
        Bytes head = new Bytes().u1(leastStep).u1(operations).u1(rowsCount).u1(lineBase).u1(lineRange).u1(first);
        head.all(operands).all(folders).all(files).all(gap);
        Bytes rest = new Bytes().u2(version).u1(addressSize).u1(selectorSize).u4(head.size() + moreHead);
        rest.all(head).all(program);
        return new Bytes().u4(rest.size() + moreLength).all(rest);
    }
}
