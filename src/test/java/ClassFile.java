import java.io.DataInputStream;
import java.io.IOException;
import java.io.InputStream;
import java.nio.ByteBuffer;
import java.util.ArrayList;
import java.util.List;
import java.util.Set;
import java.util.TreeSet;

/** The methods of a compiled class, read from its bytes: which instructions they hold and what they call. */
final class ClassFile {
    static final class Method {
        final String name;
        final Set<Integer> instructions = new TreeSet<>();
        final Set<String> calls = new TreeSet<>();
        int handlers;

        Method(String name) {
            this.name = name;
        }
    }

    private static final int IINC = 132, TABLE_SWITCH = 170, LOOKUP_SWITCH = 171, WIDE = 196;
    private static final int FIRST_CALL = 182, LAST_CALL = 185;

    final List<Method> methods = new ArrayList<>();
    private final DataInputStream in;
    private final Object[] constants;

    ClassFile(InputStream bytes) throws IOException {
        in = new DataInputStream(bytes);
        in.skipNBytes(8);
        constants = new Object[in.readUnsignedShort()];
        for (int i = 1; i < constants.length; i++) {
            int tag = in.readUnsignedByte();
            constants[i] = constant(tag);
            i += tag == 5 || tag == 6 ? 1 : 0;
        }
        in.skipNBytes(2);
        String owner = named(in.readUnsignedShort());
        in.skipNBytes(2);
        in.skipNBytes(2L * in.readUnsignedShort());
        readMembers(owner, false);
        readMembers(owner, true);
    }

    /** A text, or the numbers of the one or two constants that this one refers to. */
    private Object constant(int tag) throws IOException {
        switch (tag) {
            case 1:
                return in.readUTF();
            case 7, 8, 16, 19, 20:
                return new int[] {in.readUnsignedShort()};
            case 9, 10, 11, 12, 17, 18:
                return new int[] {in.readUnsignedShort(), in.readUnsignedShort()};
            default:
                in.skipNBytes(tag == 15 ? 3 : tag == 5 || tag == 6 ? 8 : 4);
                return "";
        }
    }

    private String named(int number) {
        if (!(constants[number] instanceof int[] parts)) {
            return (String) constants[number];
        }
        if (parts.length == 1) {
            return named(parts[0]);
        }
        boolean ofAClass = constants[parts[0]] instanceof int[];
        return named(parts[0]) + (ofAClass ? "." : "") + named(parts[1]);
    }

    private void readMembers(String owner, boolean ofMethods) throws IOException {
        int members = in.readUnsignedShort();
        for (int i = 0; i < members; i++) {
            in.skipNBytes(2);
            Method method = new Method(owner + "." + named(in.readUnsignedShort()) + named(in.readUnsignedShort()));
            if (ofMethods) {
                methods.add(method);
            }
            int attributes = in.readUnsignedShort();
            for (int j = 0; j < attributes; j++) {
                boolean code = named(in.readUnsignedShort()).equals("Code");
                byte[] content = in.readNBytes(in.readInt());
                if (code) {
                    readCode(method, ByteBuffer.wrap(content));
                }
            }
        }
    }

    private void readCode(Method method, ByteBuffer content) {
        int start = 8;
        int end = start + content.getInt(4);
        int at = start;
        while (at < end) {
            int instruction = content.get(at) & 255;
            method.instructions.add(instruction);
            if (instruction >= FIRST_CALL && instruction <= LAST_CALL) {
                method.calls.add(named(content.getShort(at + 1) & 65535));
            }
            at += length(content, instruction, at, at + 4 - (at - start) % 4);
        }
        method.handlers = content.getShort(end);
    }

    private static int length(ByteBuffer content, int instruction, int at, int table) {
        switch (instruction) {
            case TABLE_SWITCH:
                return table + 12 + 4 * (content.getInt(table + 8) - content.getInt(table + 4) + 1) - at;
            case LOOKUP_SWITCH:
                return table + 8 + 8 * content.getInt(table + 4) - at;
            case WIDE:
                return (content.get(at + 1) & 255) == IINC ? 6 : 4;
            default:
                return length(instruction);
        }
    }

    private static int length(int instruction) {
        boolean two = instruction == 16 || instruction == 18 || instruction >= 21 && instruction <= 25
            || instruction >= 54 && instruction <= 58 || instruction == 169 || instruction == 188;
        boolean three = instruction == 17 || instruction == 19 || instruction == 20 || instruction == IINC
            || instruction >= 153 && instruction <= 168 || instruction >= 178 && instruction <= 184 || instruction == 187
            || instruction == 189 || instruction == 192 || instruction == 193 || instruction == 198 || instruction == 199;
        boolean five = instruction == 185 || instruction == 186 || instruction == 200 || instruction == 201;
        return two ? 2 : three ? 3 : five ? 5 : instruction == 197 ? 4 : 1;
    }
}
