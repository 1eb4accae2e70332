import java.util.ArrayList;
import java.util.List;

/** A file of sections; its parts can be bent before it is built. */
final class Elf {
    private record Section(String title, long kind, byte[] bytes) { }

    private final List<Section> sections = new ArrayList<>();
    String namesTitle = ".shstrtab";
    long namesKind = 3;
    int padding = 0;

    Elf() { add("", 0, new Bytes()); }

    Elf add(String title, long kind, Bytes bytes) {
        sections.add(new Section(title, kind, bytes.array()));
        return this;
    }

    Elf add(String title, Bytes bytes) { return add(title, 1, bytes); }

    /** The header, the sections, the names, some padding, the headers. */
    byte[] build() {
        Bytes names = new Bytes();
        Bytes body = new Bytes();
        Bytes headers = new Bytes();
        for (Section s : sections) {
            header(headers, names.size(), s.kind, 64 + body.size(), s.bytes.length);
            names.text(s.title);
            for (byte b : s.bytes) {
                body.u1(b);
            }
        }
        int own = names.size();
        names.text(namesTitle);
        header(headers, own, namesKind, 64 + body.size(), names.size());
        body.all(names);
        for (int i = 0; i < padding; i++) {
            body.u1(0);
        }
        Bytes file = new Bytes().raw(0x7F, 0x45, 0x4C, 0x46, 2, 1, 1, 0).u8(0).u8(0).u8(0).u8(0);
        file.u8(64 + body.size()).u8(0).u2(0).u2(64).u2(sections.size() + 1).u2(sections.size());
        return file.all(body).all(headers).array();
    }

    private static void header(Bytes to, long name, long kind, long begin, long size) {
        to.u4(name).u4(kind).u8(0).u8(0).u8(begin).u8(size).u8(0).u8(0).u8(0);
    }
}
