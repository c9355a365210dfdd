import java.io.ByteArrayInputStream;
import java.io.DataInputStream;
import java.io.IOException;
import java.lang.reflect.Modifier;
import java.nio.ByteBuffer;
import java.util.ArrayList;
import java.util.List;

/** What stands in a compiled class: its fields and methods, and what each method calls, makes and throws. */
final class ClassFile {

    static final int PUTSTATIC = 179;
    static final int INVOKEVIRTUAL = 182;
    static final int INVOKEINTERFACE = 185;
    static final int INVOKEDYNAMIC = 186;
    static final int NEW = 187;
    static final int NEWARRAY = 188;
    static final int ANEWARRAY = 189;
    static final int ATHROW = 191;
    static final int CHECKCAST = 192;
    static final int INSTANCEOF = 193;
    static final int MONITORENTER = 194;
    static final int MULTIANEWARRAY = 197;

    private static final int TABLESWITCH = 170;
    private static final int LOOKUPSWITCH = 171;
    private static final int WIDE = 196;
    private static final int IINC = 132;

    /** One instruction: owner, name and type of what it uses; a class alone, if it makes or casts. */
    record Step(int op, String owner, String name, String type) {

        boolean isCall() {
            return op >= INVOKEVIRTUAL && op <= INVOKEINTERFACE;
        }
    }

    record Member(String name, String type, int access, boolean catches, List<Step> steps) {

        boolean isStatic() {
            return Modifier.isStatic(access);
        }

        boolean isFinal() {
            return Modifier.isFinal(access);
        }
    }

    final String name;
    final List<Member> fields = new ArrayList<>();
    final List<Member> methods = new ArrayList<>();

    private final DataInputStream in;
    private final Object[] pool;

    ClassFile(byte[] bytes) throws IOException {
        in = new DataInputStream(new ByteArrayInputStream(bytes));
        in.skipBytes(8);
        pool = new Object[in.readUnsignedShort()];
        for (int i = 1; i < pool.length; i++) {
            i += readConstant(i);
        }
        in.skipBytes(2);
        name = className(in.readUnsignedShort());
        in.skipBytes(2);
        in.skipBytes(2 * in.readUnsignedShort());
        readMembers(fields);
        readMembers(methods);
    }

    /** Tells how many further places of the pool it fills. */
    private int readConstant(int place) throws IOException {
        int tag = in.readUnsignedByte();
        switch (tag) {
            case 1 -> pool[place] = in.readUTF();
            case 3, 4 -> in.skipBytes(4);
            case 5, 6 -> in.skipBytes(8);
            case 7, 8, 16, 19, 20 -> pool[place] = new int[] {in.readUnsignedShort()};
            case 15 -> in.skipBytes(3);
            default -> pool[place] = new int[] {in.readUnsignedShort(), in.readUnsignedShort()};
        }
        return tag == 5 || tag == 6 ? 1 : 0;
    }

    private int part(int place, int which) {
        return ((int[]) pool[place])[which];
    }

    private String text(int place) {
        return (String) pool[place];
    }

    private String className(int place) {
        return text(part(place, 0));
    }

    private void readMembers(List<Member> members) throws IOException {
        int count = in.readUnsignedShort();
        for (int i = 0; i < count; i++) {
            int access = in.readUnsignedShort();
            String memberName = text(in.readUnsignedShort());
            String type = text(in.readUnsignedShort());
            List<Step> steps = new ArrayList<>();
            boolean catches = false;
            int attributes = in.readUnsignedShort();
            for (int j = 0; j < attributes; j++) {
                String attribute = text(in.readUnsignedShort());
                byte[] bytes = in.readNBytes(in.readInt());
                if (attribute.equals("Code")) {
                    ByteBuffer code = ByteBuffer.wrap(bytes);
                    int length = code.getInt(4);
                    readSteps(code.slice(8, length), steps);
                    catches = code.getShort(8 + length) != 0;
                }
            }
            members.add(new Member(memberName, type, access, catches, steps));
        }
    }

    private void readSteps(ByteBuffer code, List<Step> steps) {
        for (int at = 0; at < code.limit(); at += lengthAt(code, at)) {
            int op = code.get(at) & 255;
            boolean usesMember = op >= PUTSTATIC - 1 && op <= INVOKEINTERFACE;
            boolean usesClass = op == NEW || op == ANEWARRAY || op == CHECKCAST || op == INSTANCEOF
                    || op == MULTIANEWARRAY;
            int place = usesMember || usesClass ? code.getShort(at + 1) & 65535 : 0;
            if (usesMember) {
                int both = part(place, 1);
                steps.add(new Step(op, className(part(place, 0)), text(part(both, 0)), text(part(both, 1))));
            } else {
                steps.add(new Step(op, usesClass ? className(place) : "", "", ""));
            }
        }
    }

    private static int lengthAt(ByteBuffer code, int at) {
        int op = code.get(at) & 255;
        int table = at + 4 - at % 4;
        switch (op) {
            case TABLESWITCH:
                return table + 12 + 4 * (code.getInt(table + 8) - code.getInt(table + 4) + 1) - at;
            case LOOKUPSWITCH:
                return table + 8 + 8 * code.getInt(table + 4) - at;
            case WIDE:
                return (code.get(at + 1) & 255) == IINC ? 6 : 4;
            case INVOKEINTERFACE, INVOKEDYNAMIC, 200, 201:
                return 5;
            case MULTIANEWARRAY:
                return 4;
            case 17, 19, 20, IINC, NEW, ANEWARRAY, CHECKCAST, INSTANCEOF, 198, 199:
                return 3;
            case 16, 18, 169, NEWARRAY:
                return 2;
            default:
                boolean branchOrMember = op >= 153 && op <= 168 || op >= 178 && op <= 184;
                boolean loadOrStore = op >= 21 && op <= 25 || op >= 54 && op <= 58;
                return branchOrMember ? 3 : loadOrStore ? 2 : 1;
        }
    }
}
