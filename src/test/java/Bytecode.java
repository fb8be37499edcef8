import java.io.ByteArrayInputStream;
import java.io.DataInputStream;
import java.io.IOException;
import java.io.InputStream;
import java.util.ArrayList;
import java.util.LinkedHashMap;
import java.util.List;
import java.util.Map;
import java.util.TreeSet;

/** Which methods the methods of a compiled class call, by its class file. */
final class Bytecode {
    private static final int UTF8 = 1, LONG = 5, DOUBLE = 6, CLASS = 7, STRING = 8, FIELD = 9, NAME_AND_TYPE = 12,
        HANDLE = 15, METHOD_TYPE = 16, MODULE = 19, PACKAGE = 20;
    private static final int TABLESWITCH = 170, LOOKUPSWITCH = 171, INVOKEVIRTUAL = 182, INVOKEINTERFACE = 185, INVOKEDYNAMIC = 186, WIDE = 196;
    /** How many bytes follow each operation of the machine, from 0 on; the switches and wide are told apart. */
    private static final String OPERANDS = "0".repeat(16) + "1212211111" + "0".repeat(28) + "11111" + "0".repeat(73) + "2"
        + "0".repeat(20) + "2".repeat(16) + "1" + "00" + "000000" + "2222222" + "44" + "212" + "00" + "22" + "000" + "3" + "22" + "44";

    private final Object[] pool;
    private final int[][] pairs;
    private final Map<String, List<String>> calls = new LinkedHashMap<>();

    Bytecode(Class<?> of) throws IOException {
        try (InputStream file = of.getResourceAsStream("/" + of.getName() + ".class")) {
            DataInputStream in = new DataInputStream(new ByteArrayInputStream(file.readAllBytes()));
            in.skipBytes(8);
            int size = in.readUnsignedShort();
            pool = new Object[size];
            pairs = new int[size][2];
            readPool(in, size);
            in.skipBytes(6);
            in.skipBytes(2 * in.readUnsignedShort());
            readMembers(in, "");
            readMembers(in, of.getName() + ".");
        }
    }

    /** By each method of the class, as Class.method(types): the methods that it calls. */
    Map<String, List<String>> calls() {
        return calls;
    }

    /** Each method that is called, of whatever class. */
    TreeSet<String> called() {
        TreeSet<String> all = new TreeSet<>();
        calls.values().forEach(all::addAll);
        return all;
    }

    private void readPool(DataInputStream in, int size) throws IOException {
        for (int i = 1; i < size; i++) {
            int tag = in.readUnsignedByte();
            if (tag == UTF8) {
                pool[i] = in.readUTF();
            } else if (tag == LONG || tag == DOUBLE) {
                in.skipBytes(8);
                i++;
            } else if (tag == CLASS || tag == STRING || tag == METHOD_TYPE || tag == MODULE || tag == PACKAGE) {
                pairs[i][0] = in.readUnsignedShort();
            } else if (tag >= FIELD && tag <= NAME_AND_TYPE) {
                pairs[i][0] = in.readUnsignedShort();
                pairs[i][1] = in.readUnsignedShort();
            } else {
                in.skipBytes(tag == HANDLE ? 3 : 4);
            }
        }
    }

    private void readMembers(DataInputStream in, String of) throws IOException {
        int many = in.readUnsignedShort();
        for (int i = 0; i < many; i++) {
            in.skipBytes(2);
            String name = of + pool[in.readUnsignedShort()] + pool[in.readUnsignedShort()];
            int attributes = in.readUnsignedShort();
            for (int a = 0; a < attributes; a++) {
                boolean code = "Code".equals(pool[in.readUnsignedShort()]);
                byte[] bytes = in.readNBytes(in.readInt());
                if (code) {
                    calls.put(name, callsOf(new DataInputStream(new ByteArrayInputStream(bytes))));
                }
            }
        }
    }

    private List<String> callsOf(DataInputStream in) throws IOException {
        in.skipBytes(4);
        byte[] code = in.readNBytes(in.readInt());
        List<String> found = new ArrayList<>();
        for (int at = 0; at < code.length; at += lengthAt(code, at)) {
            int operation = code[at] & 255;
            if (operation >= INVOKEVIRTUAL && operation <= INVOKEINTERFACE) {
                found.add(methodAt(two(code, at + 1)));
            } else if (operation == INVOKEDYNAMIC) {
                found.add("a call that is linked as it runs");
            }
        }
        return found;
    }

    private static int lengthAt(byte[] code, int at) {
        int operation = code[at] & 255;
        int aligned = (at + 4) / 4 * 4;
        switch (operation) {
            case TABLESWITCH: return aligned + 12 + 4 * (four(code, aligned + 8) - four(code, aligned + 4) + 1) - at;
            case LOOKUPSWITCH: return aligned + 8 + 8 * four(code, aligned + 4) - at;
            case WIDE: return (code[at + 1] & 255) == 132 ? 6 : 4;
            default: return 1 + OPERANDS.charAt(operation) - '0';
        }
    }

    private static int two(byte[] code, int at) {
        return (code[at] & 255) << 8 | code[at + 1] & 255;
    }

    private static int four(byte[] code, int at) {
        return two(code, at) << 16 | two(code, at + 2);
    }

    private String methodAt(int method) {
        int[] nameAndType = pairs[pairs[method][1]];
        return pool[pairs[pairs[method][0]][0]] + "." + pool[nameAndType[0]] + pool[nameAndType[1]];
    }
}
