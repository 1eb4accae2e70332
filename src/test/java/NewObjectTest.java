/** Promise 1: no bytes; nothing read. */
public final class NewObjectTest {
    public static void main(String[] args) {
        FrameFinder x = new FrameFinder();
        Check.same("fault()", x.fault(), 0);
        for (int what = -1; what < 8; what++) {
            Check.same("count(" + what + ")", x.count(what), -1);
        }
        Check.same("find(0)", Check.tryFind(x, 0), -2);
        Check.same("name(0, 0)", x.name(0, 0), -1);
        Check.same("file(0, 0)", x.file(0, 0), -1);
        Check.same("line(0)", x.line(0), -1);
        Check.same("open()", Check.tryOpen(x), -2);
        Check.same("fault() of no bytes", x.fault(), 1);
        Check.load(x, Samples.plain().build());
        Check.same("open() when there are bytes", Check.tryOpen(x), 6);
        Check.same("another object is another", Check.tryOpen(new FrameFinder()), -2);
        Check.end();
    }
}
