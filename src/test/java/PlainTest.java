import java.util.List;

/** Files made by chance, always the same ones: the class answers what the second reading of the document says. */
public final class PlainTest {
    private static final int MOST = 512;
    private static FrameFinder x = new FrameFinder();
    private static int calls = 0;

    /** Other numbers of files, and another seed, may be asked by hand. */
    public static void main(String[] args) {
        int files = args.length > 0 ? Integer.parseInt(args[0]) : 6000;
        Maker maker = new Maker(args.length > 1 ? Long.parseLong(args[1]) : 20261115);
        int[] faults = new int[6];
        int[] depths = new int[17];
        for (int run = 0; run < files; run++) {
            byte[] file = maker.file();
            PlainReading plain = new PlainReading(file);
            faults[plain.fault]++;
            compare("file " + run, file, plain, maker, depths);
        }
        for (int fault = 0; fault <= 5; fault++) {
            Check.yes("fault " + fault + " was met", faults[fault] * 200 > files);
        }
        for (int frames = 0; frames <= 4; frames++) {
            Check.yes(frames + " frames were met", depths[frames] * 200 > files);
        }
        System.out.println("faults " + java.util.Arrays.toString(faults) + ", frames " + java.util.Arrays.toString(depths));
        Check.end();
    }

    private static void compare(String what, byte[] file, PlainReading plain, Maker maker, int[] depths) {
        // Half of the files meet an object that has read others before, as long as it may be asked.
        read(what, file, plain, maker.next(2) == 0 && calls + file.length / 8 + 60 < MOST);
        if (plain.fault != 0) {
            Check.same(what + ": find() throws", Check.tryFind(x, maker.address()), -2);
            calls++;
            return;
        }
        for (int i = 0; i < 12; i++) {
            long address = maker.address();
            List<PlainReading.Frame> due = plain.frames(address);
            depths[due.size()]++;
            int cost = 2;
            for (PlainReading.Frame f : due) {
                cost += f.name().length() + f.file().length() + 3;
            }
            if (calls + cost > MOST) {
                read(what, file, plain, false);
            }
            if (calls + cost > MOST) {
                continue;
            }
            Check.same(what + ": frames of " + Long.toHexString(address), Check.frames(x, address), written(due));
            Check.same(what + ": behind the frames", x.line(due.size()), -1);
            calls += cost;
        }
    }

    private static void read(String what, byte[] file, PlainReading plain, boolean isUsed) {
        if (isUsed) {
            x.clear();
            calls++;
        } else {
            x = new FrameFinder();
            calls = 0;
        }
        Check.load(x, file);
        int[] counts = plain.counts();
        Check.same(what + ": open()", Check.tryOpen(x), plain.fault == 0 ? counts[2] : -2);
        Check.same(what + ": fault()", x.fault(), plain.fault);
        for (int i = 0; i < counts.length; i++) {
            Check.same(what + ": count(" + i + ")", x.count(i), plain.fault == 0 ? counts[i] : -1);
        }
        calls += (file.length + 7) / 8 + 2 + counts.length;
    }

    private static String written(List<PlainReading.Frame> frames) {
        StringBuilder text = new StringBuilder();
        for (PlainReading.Frame f : frames) {
            text.append(text.length() == 0 ? "" : " ").append(f.name()).append('@').append(f.file()).append(':').append(f.line());
        }
        return text.toString();
    }
}
