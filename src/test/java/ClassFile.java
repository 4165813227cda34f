import java.io.DataInputStream;
import java.io.IOException;
import java.io.InputStream;
import java.util.ArrayList;
import java.util.List;

/** As much of a compiled class as the rules of LANGUAGE.md speak of: its methods' instructions and what they call. */
final class ClassFile {
    static final int LDC = 0x12;
    static final int INVOKE_VIRTUAL = 0xb6;
    static final int INVOKE_INTERFACE = 0xb9;
    static final int INVOKE_DYNAMIC = 0xba;

    /** Called, made or cast to by name, else empty; value: of a constant pushed, else 0. */
    record Instruction(int code, String named, long value) {
    }

    record Method(String name, boolean handlers, List<Instruction> instructions) {
    }

    final String name;
    final List<Method> methods = new ArrayList<>();
    private final Object[] pool;
    private final int[][] refs;

    ClassFile(InputStream bytes) throws IOException {
        DataInputStream in = new DataInputStream(bytes);
        in.skipNBytes(8);
        int size = in.readUnsignedShort();
        pool = new Object[size];
        refs = new int[size][];
        readPool(in, size);
        in.skipNBytes(2);
        name = nameOfClass(in.readUnsignedShort());
        in.skipNBytes(2);
        in.skipNBytes(2L * in.readUnsignedShort());
        for (int fields = in.readUnsignedShort(); fields > 0; fields--) {
            readMember(in);
        }
        for (int many = in.readUnsignedShort(); many > 0; many--) {
            Method m = readMember(in);
            if (m != null) {
                methods.add(m);
            }
        }
    }

    private void readPool(DataInputStream in, int size) throws IOException {
        for (int i = 1; i < size; i++) {
            int tag = in.readUnsignedByte();
            switch (tag) {
                case 1 -> pool[i] = in.readUTF();
                case 3 -> pool[i] = (long) in.readInt();
                case 4 -> in.skipNBytes(4);
                case 5 -> pool[i++] = in.readLong();
                case 6 -> {
                    in.skipNBytes(8);
                    i++;
                }
                case 7, 8, 16, 19, 20 -> refs[i] = new int[] {in.readUnsignedShort()};
                case 15 -> in.skipNBytes(3);
                default -> refs[i] = new int[] {in.readUnsignedShort(), in.readUnsignedShort()};
            }
        }
    }

    private String nameOfClass(int i) {
        return (String) pool[refs[i][0]];
    }

    private String nameOfCalled(int i) {
        return nameOfClass(refs[i][0]) + "." + pool[refs[refs[i][1]][0]];
    }

    /** Null if it has no code. */
    private Method readMember(DataInputStream in) throws IOException {
        in.skipNBytes(2);
        String called = (String) pool[in.readUnsignedShort()];
        in.skipNBytes(2);
        Method found = null;
        for (int many = in.readUnsignedShort(); many > 0; many--) {
            String attribute = (String) pool[in.readUnsignedShort()];
            int length = in.readInt();
            if (!attribute.equals("Code")) {
                in.skipNBytes(length);
                continue;
            }
            in.skipNBytes(4);
            byte[] code = new byte[in.readInt()];
            in.readFully(code);
            int handlers = in.readUnsignedShort();
            in.skipNBytes(length - 10L - code.length);
            found = new Method(called, handlers > 0, instructions(code));
        }
        return found;
    }

    private List<Instruction> instructions(byte[] code) {
        List<Instruction> all = new ArrayList<>();
        int at = 0;
        while (at < code.length) {
            int op = code[at] & 255;
            all.add(new Instruction(op, named(code, at, op), value(code, at, op)));
            at += length(code, at, op);
        }
        return all;
    }

    private static int two(byte[] code, int at) {
        return (code[at] & 255) << 8 | code[at + 1] & 255;
    }

    private static int four(byte[] code, int at) {
        return two(code, at) << 16 | two(code, at + 2);
    }

    private String named(byte[] code, int at, int op) {
        if (op >= INVOKE_VIRTUAL && op <= INVOKE_INTERFACE) {
            return nameOfCalled(two(code, at + 1));
        }
        return op == 0xbb || op == 0xbd || op == 0xc0 || op == 0xc1 ? nameOfClass(two(code, at + 1)) : "";
    }

    private long value(byte[] code, int at, int op) {
        if (op >= 0x02 && op <= 0x08) {
            return op - 3;
        }
        if (op == 0x09 || op == 0x0a) {
            return op - 0x09;
        }
        if (op == 0x10) {
            return code[at + 1];
        }
        if (op == 0x11) {
            return (short) two(code, at + 1);
        }
        if (op == LDC || op == 0x13 || op == 0x14) {
            Object told = pool[op == LDC ? code[at + 1] & 255 : two(code, at + 1)];
            return told instanceof Long ? (Long) told : 0;
        }
        return 0;
    }

    private static int length(byte[] code, int at, int op) {
        if (op == 0xaa || op == 0xab) {
            int from = at + 4 - at % 4;
            int rows = op == 0xaa ? four(code, from + 8) - four(code, from + 4) + 1 : 2 * four(code, from + 4);
            return from - at + (op == 0xaa ? 12 : 8) + 4 * rows;
        }
        if (op == 0xc4) {
            return (code[at + 1] & 255) == 0x84 ? 6 : 4;
        }
        if (op == 0xb9 || op == 0xba || op == 0xc8 || op == 0xc9) {
            return 5;
        }
        if (op == 0xc5) {
            return 4;
        }
        boolean three = op == 0x11 || op == 0x13 || op == 0x14 || op == 0x84 || op >= 0x99 && op <= 0xa8
            || op >= 0xb2 && op <= 0xb8 || op == 0xbb || op == 0xbd || op == 0xc0 || op == 0xc1 || op == 0xc6 || op == 0xc7;
        if (three) {
            return 3;
        }
        boolean two = op == 0x10 || op == LDC || op >= 0x15 && op <= 0x19 || op >= 0x36 && op <= 0x3a || op == 0xa9
            || op == 0xbc;
        return two ? 2 : 1;
    }
}
