import java.util.ArrayList;
import java.util.List;

/** A file of sections; its parts can be bent before it is built. */
final class Elf {
    private record Section(String title, long kind, byte[] bytes) { }

    private final List<Section> sections = new ArrayList<>();
    String namesTitle = ".shstrtab";
    long namesKind = 3;
    int padding = 0;
    /** The headers stand before the sections then, and the section of the title last of all. */
    String last = null;

    Elf() { add("", 0, new Bytes()); }

    Elf add(String title, long kind, Bytes bytes) {
        sections.add(new Section(title, kind, bytes.array()));
        return this;
    }

    Elf add(String title, Bytes bytes) { return add(title, 1, bytes); }

    /** The head, the sections, the names, some padding, the headers; with a last section that, otherwise. */
    byte[] build() {
        int total = sections.size() + 1;
        Bytes names = new Bytes();
        long[] namePlaces = new long[total];
        for (int i = 0; i < total; i++) {
            namePlaces[i] = names.size();
            names.text(i < sections.size() ? sections.get(i).title : namesTitle);
        }
        List<Section> all = new ArrayList<>(sections);
        all.add(new Section(namesTitle, namesKind, names.array()));
        Bytes before = new Bytes().raw(new int[last == null ? 0 : 64 * total + padding]);
        Bytes body = new Bytes();
        long[] begins = new long[total];
        for (int turn = 0; turn <= 1; turn++) {
            for (int i = 0; i < total; i++) {
                if (all.get(i).title.equals(last) == (turn == 1)) {
                    begins[i] = 64 + before.size() + body.size();
                    body.raw(ints(all.get(i).bytes));
                }
            }
        }
        Bytes headers = new Bytes();
        for (int i = 0; i < total; i++) {
            header(headers, namePlaces[i], all.get(i).kind, begins[i], all.get(i).bytes.length);
        }
        int behind = last == null ? body.size() + padding : 0;
        Bytes file = new Bytes().raw(0x7F, 0x45, 0x4C, 0x46, 2, 1, 1, 0).u8(0).u8(0).u8(0).u8(0);
        file.u8(64 + behind).u8(0).u2(0).u2(64).u2(total).u2(total - 1);
        if (last != null) {
            return file.all(headers).raw(new int[padding]).all(body).array();
        }
        return file.all(body).raw(new int[padding]).all(headers).array();
    }

    private static int[] ints(byte[] bytes) {
        int[] all = new int[bytes.length];
        for (int i = 0; i < all.length; i++) {
            all[i] = bytes[i];
        }
        return all;
    }

    private static void header(Bytes to, long name, long kind, long begin, long size) {
        to.u4(name).u4(kind).u8(0).u8(0).u8(begin).u8(size).u8(0).u8(0).u8(0);
    }
}
