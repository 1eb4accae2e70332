/** Promise 9: file. */
public final class FileTest {
    public static void main(String[] args) {
        characters();
        rows();
        calls();
        units();
        names();
        Check.end();
    }

    private static void characters() {
        FrameFinder x = Check.opened("plain", Samples.plain().build());
        Check.same("before find", x.file(0, 0), -1);
        Check.same("find", x.find(0x1090), 2);
        Check.same("of the row", Check.file(x, 0), "b.h");
        Check.same("of the call", Check.file(x, 1), "a.c");
        for (int k : new int[] {-1, 3, 4, 3000, Integer.MAX_VALUE, Integer.MIN_VALUE}) {
            Check.same("file(0, " + k + ")", x.file(0, k), -1);
        }
        for (int i : new int[] {-1, 2, 3, 16, 17, Integer.MAX_VALUE, Integer.MIN_VALUE}) {
            Check.same("file(" + i + ", 0)", x.file(i, 0), -1);
        }
        Check.same("a symbol", x.find(0x3000), 1);
        Check.same("a symbol has no file", x.file(0, 0), -1);
        Check.same("a function without a row", x.find(0x2000), 1);
        Check.same("has no file", x.file(0, 0), -1);
    }

    private static FrameFinder single(String what, LineTable table) {
        Dwarf d = Samples.tables();
        Bytes e = new Bytes().u1(Samples.UNIT).u4(0);
        d.unit(Samples.function(e, "f", 1, 100).u1(0).u1(0));
        d.line.all(table.build());
        d.lineStr.text("zero").text("one");
        return Check.opened(what, d.build());
    }

    private static void row(String what, Bytes number, String due) {
        LineTable t = new LineTable();
        t.program.u1(4).all(number);
        FrameFinder x = single(what, t.row(1, 1).end(50));
        Check.same(what, x.find(1), 1);
        Check.same(what, Check.file(x, 0), due);
    }

    private static void rows() {
        row("0", new Bytes().uleb(0), "a.c");
        row("1", new Bytes().uleb(1), "b.h");
        row("2", new Bytes().uleb(2), "");
        row("beyond an int", new Bytes().uleb(1L << 32), "");
        row("the highest", new Bytes().uleb(-1), "");
        row("lost bits", new Bytes().raw(0x80, 0x80, 0x80, 0x80, 0x80, 0x80, 0x80, 0x80, 0x80, 0x02), "a.c");
        LineTable t = new LineTable();
        t.program.raw(4, 0);
        t.row(1, 1).end(2).row(2, 2).end(3);
        FrameFinder x = single("behind an end", t);
        Check.same("0 first", Check.frames(x, 1), "f@a.c:1");
        Check.same("1 again behind an end", Check.frames(x, 2), "f@b.h:2");
    }

    /** The file of a call by each constant. */
    private static void calls() {
        call("u1", 0x0B, new Bytes().u1(0), "a.c");
        call("u2", 0x05, new Bytes().u2(1), "b.h");
        call("u2, too high", 0x05, new Bytes().u2(0x100), "");
        call("u4", 0x06, new Bytes().u4(1), "b.h");
        call("u8", 0x07, new Bytes().u8(1), "b.h");
        call("u8, beyond an int", 0x07, new Bytes().u8(1L << 32 | 1), "");
        call("ULEB", 0x0F, new Bytes().uleb(1), "b.h");
        call("SLEB", 0x0D, new Bytes().sleb(1), "b.h");
        call("SLEB below 0", 0x0D, new Bytes().sleb(-1), "");
        call("one", 0x19, new Bytes(), "b.h");
        call("behind the last", 0x0B, new Bytes().u1(2), "");
        call("none", 0, new Bytes(), "");
    }

    private static void call(String what, int form, Bytes value, String due) {
        Dwarf d = new Dwarf().abbrev(1, 0x11, 1, 0x10, 0x17).abbrev(2, 0x2E, 1, 0x11, 0x01, 0x12, 0x0B);
        long[] all = {0x11, 0x01, 0x12, 0x0B, 0x58, form};
        d.abbrev(3, 0x1D, 0, form == 0 ? java.util.Arrays.copyOf(all, 4) : all).endAbbrevs();
        d.unit(new Bytes().u1(1).u4(0).u1(2).u8(1).u1(9).u1(3).u8(1).u1(9).all(value).u1(0).u1(0));
        d.line.all(new LineTable().build());
        FrameFinder x = Check.opened(what, d.build());
        Check.same("call by " + what, x.find(1), 2);
        Check.same("call by " + what, Check.file(x, 1), due);
        Check.same("line without", x.line(1), 0);
    }

    /** Each unit has its own files and rows, or none. */
    private static void units() {
        Dwarf d = Samples.tables();
        LineTable one = new LineTable().row(1, 11).end(90);
        LineTable two = new LineTable().row(1, 22).end(90);
        two.files = new Bytes().u1(1).uleb(1).uleb(0x08).uleb(3).text("x").text("y").text("z");
        d.line.all(one.build());
        int second = d.line.size();
        d.line.all(two.build());
        Bytes a = new Bytes().u1(Samples.UNIT).u4(second);
        d.unit(Samples.function(a, "a", 1, 10).u1(0).u1(0));
        Bytes b = new Bytes().u1(Samples.BARE_UNIT);
        Samples.function(b, "b", 20, 10);
        d.unit(Samples.putIn(b, "bb", 20, 5, 1, 7).u1(0).u1(0).u1(0));
        Bytes c = new Bytes().u1(Samples.UNIT).u4(0);
        d.unit(Samples.function(c, "c", 40, 10).u1(0).u1(0));
        FrameFinder x = Check.opened("units", d.build());
        Check.same("the second table", Check.frames(x, 1), "a@y:22");
        Check.same("no table", Check.frames(x, 20), "bb@:0 b@:7");
        Check.same("the first table", Check.frames(x, 40), "c@b.h:11");
    }

    private static void named(String what, Bytes files, String due) {
        LineTable t = new LineTable();
        t.files = files;
        FrameFinder x = single(what, t.row(1, 1).end(50));
        Check.same(what, x.find(1), 1);
        Check.same(what, Check.file(x, 0), due);
    }

    private static void names() {
        named("no name", new Bytes().u1(1).uleb(2).uleb(0x0B).uleb(2).u1(65).u1(65), "");
        named("no forms", new Bytes().u1(0).uleb(2), "");
        named("none at all", new Bytes().u1(0).uleb(0), "");
        named("in .debug_line_str", new Bytes().u1(1).uleb(1).uleb(0x1F).uleb(2).u4(0).u4(5), "one");
        named("behind a number", new Bytes().u1(2).uleb(2).uleb(0x0B).uleb(1).uleb(8).uleb(2).u1(1).text("p").u1(1).text("q"), "q");
        named("before another", new Bytes().u1(2).uleb(1).uleb(8).uleb(1).uleb(8).uleb(2).text("p").text("q").text("r").text("s"), "r");
        named("what 2 is none", new Bytes().u1(2).uleb(2).uleb(8).uleb(1).uleb(8).uleb(2).text("p").text("q").text("r").text("s"), "s");
        named("an empty one", new Bytes().u1(1).uleb(1).uleb(8).uleb(2).text("p").text(""), "");
    }
}
