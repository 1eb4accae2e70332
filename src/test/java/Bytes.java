import java.io.ByteArrayOutputStream;

/** Bytes that grow, with the numbers and texts that the tables are made of. */
final class Bytes {
    private final ByteArrayOutputStream out = new ByteArrayOutputStream();

    Bytes number(int n, long value) {
        for (int i = 0; i < n; i++) {
            out.write((int) (value >>> (8 * i)) & 0xFF);
        }
        return this;
    }

    Bytes u1(long value) { return number(1, value); }
    Bytes u2(long value) { return number(2, value); }
    Bytes u4(long value) { return number(4, value); }
    Bytes u8(long value) { return number(8, value); }

    Bytes uleb(long value) {
        long rest = value;
        while ((rest & ~0x7FL) != 0) {
            out.write((int) (rest & 0x7F) | 0x80);
            rest >>>= 7;
        }
        out.write((int) rest);
        return this;
    }

    Bytes sleb(long value) {
        long rest = value;
        while (rest < -64 || rest > 63) {
            out.write((int) (rest & 0x7F) | 0x80);
            rest >>= 7;
        }
        out.write((int) (rest & 0x7F));
        return this;
    }

    Bytes text(String text) {
        for (int i = 0; i < text.length(); i++) {
            out.write(text.charAt(i));
        }
        out.write(0);
        return this;
    }

    Bytes raw(int... bytes) {
        for (int b : bytes) {
            out.write(b);
        }
        return this;
    }

    Bytes all(Bytes other) {
        out.writeBytes(other.array());
        return this;
    }

    int size() { return out.size(); }

    byte[] array() { return out.toByteArray(); }
}
