import java.io.ByteArrayInputStream;
import java.io.DataInputStream;
import java.io.IOException;
import java.io.InputStream;
import java.util.ArrayList;
import java.util.LinkedHashMap;
import java.util.List;
import java.util.Map;
import java.util.Set;
import java.util.TreeSet;

/** A class file: its methods, whom each calls and by which instructions. */
final class Compiled {
    static final int ATHROW = 191, INVOKE_DYNAMIC = 186, MONITOR_ENTER = 194, NEW = 187, NEW_ARRAY = 188, NEW_ROW = 189,
        NEW_TABLE = 197;

    /** One method, by the name Class.method with its descriptor. */
    static final class Code {
        final Set<String> calls = new TreeSet<>();
        final Set<Integer> instructions = new TreeSet<>();
        boolean catches;
    }

    private static final int TABLE_SWITCH = 170, LOOKUP_SWITCH = 171, WIDE = 196, IINC = 132;
    // From which instruction on an instruction takes so many bytes, with what it works on.
    private static final int[][] LENGTHS = {{0, 1}, {16, 2}, {17, 3}, {18, 2}, {19, 3}, {21, 2}, {26, 1}, {54, 2}, {59, 1},
        {132, 3}, {133, 1}, {153, 3}, {169, 2}, {172, 1}, {178, 3}, {185, 5}, {187, 3}, {188, 2}, {189, 3}, {190, 1},
        {192, 3}, {194, 1}, {197, 4}, {198, 3}, {200, 5}};

    final Map<String, Code> methods = new LinkedHashMap<>();
    private final String name;
    private final int[] tags;
    private final int[] firsts;
    private final int[] seconds;
    private final String[] texts;

    Compiled(Class<?> one) throws IOException {
        byte[] bytes;
        try (InputStream in = one.getResourceAsStream("/" + one.getName() + ".class")) {
            bytes = in.readAllBytes();
        }
        DataInputStream in = new DataInputStream(new ByteArrayInputStream(bytes));
        in.skipBytes(8);
        int count = in.readUnsignedShort();
        tags = new int[count];
        firsts = new int[count];
        seconds = new int[count];
        texts = new String[count];
        for (int i = 1; i < count; i++) {
            readConstant(in, i);
            i += tags[i] == 5 || tags[i] == 6 ? 1 : 0;
        }
        in.skipBytes(2);
        name = texts[firsts[in.readUnsignedShort()]];
        in.skipBytes(2);
        in.skipBytes(2 * in.readUnsignedShort());
        readMembers(in, false);
        readMembers(in, true);
    }

    private void readConstant(DataInputStream in, int i) throws IOException {
        tags[i] = in.readUnsignedByte();
        switch (tags[i]) {
            case 1: texts[i] = in.readUTF(); break;
            case 3: case 4: in.skipBytes(4); break;
            case 5: case 6: in.skipBytes(8); break;
            case 7: case 8: case 16: case 19: case 20: firsts[i] = in.readUnsignedShort(); break;
            case 15: in.skipBytes(3); break;
            default:
                firsts[i] = in.readUnsignedShort();
                seconds[i] = in.readUnsignedShort();
                break;
        }
    }

    private void readMembers(DataInputStream in, boolean areMethods) throws IOException {
        int count = in.readUnsignedShort();
        for (int i = 0; i < count; i++) {
            in.skipBytes(2);
            String member = name + "." + texts[in.readUnsignedShort()] + texts[in.readUnsignedShort()];
            Code code = new Code();
            int attributes = in.readUnsignedShort();
            for (int k = 0; k < attributes; k++) {
                String attribute = texts[in.readUnsignedShort()];
                byte[] content = new byte[in.readInt()];
                in.readFully(content);
                if (attribute.equals("Code")) {
                    readCode(new DataInputStream(new ByteArrayInputStream(content)), code);
                }
            }
            if (areMethods) {
                methods.put(member, code);
            }
        }
    }

    private void readCode(DataInputStream in, Code code) throws IOException {
        in.skipBytes(4);
        byte[] bytes = new byte[in.readInt()];
        in.readFully(bytes);
        code.catches = in.readUnsignedShort() > 0;
        for (int at = 0; at < bytes.length; at += length(bytes, at)) {
            int instruction = bytes[at] & 255;
            code.instructions.add(instruction);
            if (instruction >= 182 && instruction <= 185) {
                code.calls.add(reference((bytes[at + 1] & 255) << 8 | bytes[at + 2] & 255));
            }
        }
    }

    private String reference(int i) {
        int member = seconds[i];
        return texts[firsts[firsts[i]]] + "." + texts[firsts[member]] + texts[seconds[member]];
    }

    private static int length(byte[] bytes, int at) {
        int instruction = bytes[at] & 255;
        int padded = (at / 4 + 1) * 4;
        if (instruction == TABLE_SWITCH) {
            return padded - at + 12 + 4 * (number(bytes, padded + 8) - number(bytes, padded + 4) + 1);
        }
        if (instruction == LOOKUP_SWITCH) {
            return padded - at + 8 + 8 * number(bytes, padded + 4);
        }
        if (instruction == WIDE) {
            return (bytes[at + 1] & 255) == IINC ? 6 : 4;
        }
        int length = 1;
        for (int[] row : LENGTHS) {
            length = instruction >= row[0] ? row[1] : length;
        }
        return length;
    }

    private static int number(byte[] bytes, int at) {
        return (bytes[at] & 255) << 24 | (bytes[at + 1] & 255) << 16 | (bytes[at + 2] & 255) << 8 | bytes[at + 3] & 255;
    }

    /** All methods of a class and of those inside it. */
    static Map<String, Code> all(Class<?> one) throws IOException {
        Map<String, Code> all = new LinkedHashMap<>(new Compiled(one).methods);
        for (Class<?> inside : one.getDeclaredClasses()) {
            all.putAll(all(inside));
        }
        return all;
    }

    /** The longest row of calls that begins with a method and goes through none twice. */
    static List<String> deepest(Map<String, Code> all, String from) {
        return deepest(all, from, new ArrayList<>());
    }

    private static List<String> deepest(Map<String, Code> all, String from, List<String> path) {
        path.add(from);
        List<String> best = new ArrayList<>(path);
        for (String to : all.get(from).calls) {
            if (all.containsKey(to) && !path.contains(to)) {
                List<String> deeper = deepest(all, to, path);
                best = deeper.size() > best.size() ? deeper : best;
            }
        }
        path.remove(path.size() - 1);
        return best;
    }

    /** Whether calls lead from a method back to it. */
    static boolean comesBack(Map<String, Code> all, String method) {
        Set<String> reached = new TreeSet<>(all.get(method).calls);
        List<String> open = new ArrayList<>(reached);
        while (!open.isEmpty()) {
            Code code = all.get(open.remove(open.size() - 1));
            for (String to : code == null ? Set.<String>of() : code.calls) {
                if (reached.add(to)) {
                    open.add(to);
                }
            }
        }
        return reached.contains(method);
    }
}
