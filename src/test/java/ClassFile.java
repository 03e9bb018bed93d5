import java.io.DataInputStream;
import java.io.IOException;
import java.io.InputStream;
import java.util.ArrayList;
import java.util.List;

/** A compiled class, as far as ClassFileTest asks: its fields, its methods, what their instructions are and call. */
final class ClassFile {
    private static final int TABLESWITCH = 170;
    private static final int LOOKUPSWITCH = 171;
    private static final int WIDE = 196;
    private static final int IINC = 132;
    // how many bytes follow an instruction of the number that the place tells; 9 of those told apart below
    private static final String LENGTHS = "0".repeat(16) + "1212211111" + "0".repeat(28) + "11111" + "0".repeat(73) + "2" + "0".repeat(20)
        + "2".repeat(16) + "199" + "0".repeat(6) + "22222224421" + "2002200932244" + "0".repeat(54);

    static final class Member {
        String name;
        String type;
        int how;
        int handlers = 0;
        final List<Integer> instructions = new ArrayList<>();
        /** Class.name of what is called, by each call. */
        final List<String> called = new ArrayList<>();
        /** What is made: a class, or an array's type. */
        final List<String> made = new ArrayList<>();
    }

    final List<Member> fields = new ArrayList<>();
    final List<Member> methods = new ArrayList<>();
    String name;
    private Object[] constants;

    static ClassFile of(String name) throws IOException {
        try (InputStream bytes = ClassFile.class.getResourceAsStream("/" + name + ".class"); DataInputStream in = new DataInputStream(bytes)) {
            ClassFile file = new ClassFile();
            file.read(in);
            return file;
        }
    }

    private void read(DataInputStream in) throws IOException {
        in.readInt();
        in.readInt();
        readConstants(in);
        in.readUnsignedShort();
        name = className(in.readUnsignedShort());
        in.readUnsignedShort();
        in.skipBytes(2 * in.readUnsignedShort());
        readMembers(in, fields);
        readMembers(in, methods);
    }

    private void readConstants(DataInputStream in) throws IOException {
        constants = new Object[in.readUnsignedShort()];
        for (int i = 1; i < constants.length; i++) {
            int tag = in.readUnsignedByte();
            switch (tag) {
                case 1: constants[i] = in.readUTF(); break;
                case 3: constants[i] = in.readInt(); break;
                case 4: constants[i] = in.readFloat(); break;
                case 5: constants[i++] = in.readLong(); break;
                case 6: constants[i++] = in.readDouble(); break;
                case 7: case 8: case 16: case 19: case 20: constants[i] = new int[] {in.readUnsignedShort()}; break;
                case 15: in.readUnsignedByte(); in.readUnsignedShort(); break;
                default: constants[i] = new int[] {in.readUnsignedShort(), in.readUnsignedShort()}; break;
            }
        }
    }

    private String text(int i) {
        return (String) constants[i];
    }

    private String className(int i) {
        return text(((int[]) constants[i])[0]);
    }

    private String reference(int i) {
        int[] pair = (int[]) constants[i];
        int[] nameAndType = (int[]) constants[pair[1]];
        return className(pair[0]) + "." + text(nameAndType[0]);
    }

    private void readMembers(DataInputStream in, List<Member> members) throws IOException {
        int count = in.readUnsignedShort();
        for (int n = 0; n < count; n++) {
            Member member = new Member();
            member.how = in.readUnsignedShort();
            member.name = text(in.readUnsignedShort());
            member.type = text(in.readUnsignedShort());
            int attributes = in.readUnsignedShort();
            for (int a = 0; a < attributes; a++) {
                String attribute = text(in.readUnsignedShort());
                byte[] bytes = new byte[in.readInt()];
                in.readFully(bytes);
                if (attribute.equals("Code")) {
                    readCode(bytes, member);
                }
            }
            members.add(member);
        }
    }

    private static int two(byte[] b, int i) {
        return (b[i] & 255) << 8 | b[i + 1] & 255;
    }

    private static int four(byte[] b, int i) {
        return two(b, i) << 16 | two(b, i + 2);
    }

    private void readCode(byte[] b, Member member) {
        int begin = 8;
        int end = begin + four(b, 4);
        int i = begin;
        while (i < end) {
            int instruction = b[i] & 255;
            member.instructions.add(instruction);
            if (instruction >= 182 && instruction <= 185) {
                member.called.add(reference(two(b, i + 1)));
            } else if (instruction == 187 || instruction == 189) {
                member.made.add(className(two(b, i + 1)) + (instruction == 189 ? "[]" : ""));
            } else if (instruction == 188) {
                member.made.add("[]");
            }
            int aligned = begin + ((i - begin) / 4 + 1) * 4;
            if (instruction == TABLESWITCH) {
                i = aligned + 12 + 4 * (four(b, aligned + 8) - four(b, aligned + 4) + 1);
            } else if (instruction == LOOKUPSWITCH) {
                i = aligned + 8 + 8 * four(b, aligned + 4);
            } else if (instruction == WIDE) {
                i += (b[i + 1] & 255) == IINC ? 6 : 4;
            } else {
                i += 1 + LENGTHS.charAt(instruction) - '0';
            }
        }
        if (i != end) {
            throw new IllegalStateException(name + "." + member.name + ": its instructions end at " + i + ", not at " + end);
        }
        member.handlers = two(b, end);
    }
}
