import java.io.DataInputStream;
import java.io.IOException;
import java.io.InputStream;
import java.util.ArrayList;
import java.util.List;
import java.util.TreeSet;

/** What the methods of a compiled class do: what they call and make, and how many lines they have. */
final class Bytecode {
    /** One method, as its bytes tell it. */
    static final class Body {
        final String owner;
        final String name;
        final String type;
        /** Methods as "owner.name type". */
        final TreeSet<String> calls = new TreeSet<>();
        final TreeSet<Integer> operations = new TreeSet<>();
        int handlers = 0;
        int firstLine = Integer.MAX_VALUE;
        int lastLine = 0;

        Body(String owner, String name, String type) {
            this.owner = owner;
            this.name = name;
            this.type = type;
        }

        String told() {
            return owner + "." + name + " " + type;
        }
    }

    private static final int TABLE_SWITCH = 170;
    private static final int LOOKUP_SWITCH = 171;
    private static final int WIDE = 196;

    private final String owner;
    private final DataInputStream in;
    private String[] texts;
    /** Of a name and of a reference the two numbers, of a class the one. */
    private int[][] links;

    private Bytecode(String owner, InputStream from) {
        this.owner = owner;
        in = new DataInputStream(from);
    }

    static List<Body> of(Class<?> type) throws IOException {
        try (InputStream from = type.getResourceAsStream("/" + type.getName() + ".class")) {
            return new Bytecode(type.getName(), from).bodies();
        }
    }

    private List<Body> bodies() throws IOException {
        in.skipNBytes(8);
        constants();
        in.skipNBytes(6);
        in.skipNBytes(2L * in.readUnsignedShort());
        List<Body> found = new ArrayList<>();
        for (int fields = in.readUnsignedShort(); fields > 0; fields--) {
            member();
        }
        for (int methods = in.readUnsignedShort(); methods > 0; methods--) {
            found.add(member());
        }
        return found;
    }

    private void constants() throws IOException {
        int many = in.readUnsignedShort();
        texts = new String[many];
        links = new int[many][2];
        for (int i = 1; i < many; i++) {
            int tag = in.readUnsignedByte();
            switch (tag) {
                case 1:
                    texts[i] = in.readUTF();
                    break;
                case 5: case 6:
                    in.skipNBytes(8);
                    i++;
                    break;
                case 7: case 8: case 16: case 19: case 20:
                    links[i][0] = in.readUnsignedShort();
                    break;
                case 15:
                    in.skipNBytes(3);
                    break;
                default:
                    links[i][0] = in.readUnsignedShort();
                    links[i][1] = in.readUnsignedShort();
            }
        }
    }

    private Body member() throws IOException {
        in.skipNBytes(2);
        Body body = new Body(owner, texts[in.readUnsignedShort()], texts[in.readUnsignedShort()]);
        for (int attributes = in.readUnsignedShort(); attributes > 0; attributes--) {
            String name = texts[in.readUnsignedShort()];
            int length = in.readInt();
            if (name.equals("Code")) {
                code(body);
            } else {
                in.skipNBytes(length);
            }
        }
        return body;
    }

    private void code(Body body) throws IOException {
        in.skipNBytes(4);
        byte[] code = new byte[in.readInt()];
        in.readFully(code);
        for (int at = 0; at < code.length; at += length(code, at)) {
            int operation = code[at] & 255;
            body.operations.add(operation);
            if (operation >= 182 && operation <= 185) {
                body.calls.add(reference(two(code, at + 1)));
            }
        }
        body.handlers = in.readUnsignedShort();
        in.skipNBytes(8L * body.handlers);
        for (int attributes = in.readUnsignedShort(); attributes > 0; attributes--) {
            boolean lines = texts[in.readUnsignedShort()].equals("LineNumberTable");
            int length = in.readInt();
            if (lines) {
                lines(body);
            } else {
                in.skipNBytes(length);
            }
        }
    }

    private void lines(Body body) throws IOException {
        for (int rows = in.readUnsignedShort(); rows > 0; rows--) {
            in.skipNBytes(2);
            int line = in.readUnsignedShort();
            body.firstLine = Math.min(body.firstLine, line);
            body.lastLine = Math.max(body.lastLine, line);
        }
    }

    private String reference(int at) {
        int[] name = links[links[at][1]];
        return texts[links[links[at][0]][0]] + "." + texts[name[0]] + " " + texts[name[1]];
    }

    private static int two(byte[] code, int at) {
        return (code[at] & 255) << 8 | code[at + 1] & 255;
    }

    private static int four(byte[] code, int at) {
        return two(code, at) << 16 | two(code, at + 2);
    }

    /** How many bytes the operation at this place takes. */
    private static int length(byte[] code, int at) {
        int operation = code[at] & 255;
        int aligned = (at + 4) / 4 * 4;
        if (operation == TABLE_SWITCH) {
            return aligned + 12 + 4 * (four(code, aligned + 8) - four(code, aligned + 4) + 1) - at;
        }
        if (operation == LOOKUP_SWITCH) {
            return aligned + 8 + 8 * four(code, aligned + 4) - at;
        }
        if (operation == WIDE) {
            return (code[at + 1] & 255) == 132 ? 6 : 4;
        }
        boolean two = operation == 16 || operation == 18 || operation >= 21 && operation <= 25
                || operation >= 54 && operation <= 58 || operation == 169 || operation == 188;
        boolean three = operation == 17 || operation == 19 || operation == 20 || operation == 132
                || operation >= 153 && operation <= 168 || operation >= 178 && operation <= 184 || operation == 187
                || operation == 189 || operation == 192 || operation == 193 || operation == 198 || operation == 199;
        boolean five = operation == 185 || operation == 186 || operation == 200 || operation == 201;
        return two ? 2 : three ? 3 : operation == 197 ? 4 : five ? 5 : 1;
    }
}
