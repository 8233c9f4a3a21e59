import java.io.ByteArrayInputStream;
import java.io.DataInputStream;
import java.io.IOException;
import java.io.InputStream;
import java.lang.reflect.Field;
import java.nio.ByteBuffer;
import java.util.ArrayDeque;
import java.util.ArrayList;
import java.util.Deque;
import java.util.List;
import java.util.Map;
import java.util.Set;
import java.util.TreeMap;
import java.util.TreeSet;

/** The rules of LANGUAGE.md that the compiled class tells: what it calls, how deep, what it makes. */
public final class EvenTenRules {
    /** Rule 4, so far as the class has need of it; Object's own constructor is in every class. */
    private static final Set<String> LIBRARY = Set.of(
        "java/lang/Object.<init>", "java/lang/String.length", "java/lang/String.charAt",
        "java/lang/String.indexOf", "java/lang/Integer.bitCount", "java/lang/Math.max",
        "java/lang/Math.min", "java/lang/System.arraycopy", "java/util/Arrays.fill");
    private static final int DEEPEST = 8, MOST_PARAMETERS = 7, MOST_LEVELS = 20, MOST_OPEN = 300;

    private static final int TABLESWITCH = 0xaa, LOOKUPSWITCH = 0xab, INVOKEVIRTUAL = 0xb6,
        INVOKESTATIC = 0xb8, INVOKEINTERFACE = 0xb9, INVOKEDYNAMIC = 0xba, NEW = 0xbb, NEWARRAY = 0xbc,
        ANEWARRAY = 0xbd, ATHROW = 0xbf, CHECKCAST = 0xc0, MONITORENTER = 0xc2, WIDE = 0xc4,
        MULTIANEWARRAY = 0xc5, IINC = 0x84;

    private static int wrong = 0;
    /** For each method of ours the methods that it calls, ours and the library's. */
    private static final Map<String, Set<String>> CALLS = new TreeMap<>();
    private static final Set<String> PUBLIC = new TreeSet<>();

    private static void must(boolean holds, String what) {
        if (!holds) {
            wrong++;
            System.out.println("broken: " + what);
        }
    }

    /** A class file: what its constants name, and its methods' code. */
    private static final class ClassFile {
        final String name;
        private final int[] tags;
        private final int[] first;
        private final int[] second;
        private final String[] words;
        private final DataInputStream in;

        ClassFile(byte[] bytes) throws IOException {
            in = new DataInputStream(new ByteArrayInputStream(bytes));
            in.skipBytes(8);
            int constants = in.readUnsignedShort();
            tags = new int[constants];
            first = new int[constants];
            second = new int[constants];
            words = new String[constants];
            for (int i = 1; i < constants; i++) {
                i += readConstant(i);
            }
            in.skipBytes(2);
            name = words[first[in.readUnsignedShort()]];
            in.skipBytes(2);
            in.skipBytes(2 * in.readUnsignedShort());
            int fields = in.readUnsignedShort();
            for (int i = 0; i < fields; i++) {
                in.skipBytes(6);
                skipAttributes();
            }
            int methods = in.readUnsignedShort();
            for (int i = 0; i < methods; i++) {
                readMethod();
            }
        }

        /** How many places it takes up beyond its own. */
        private int readConstant(int i) throws IOException {
            tags[i] = in.readUnsignedByte();
            switch (tags[i]) {
                case 1 -> words[i] = in.readUTF();
                case 3, 4 -> in.skipBytes(4);
                case 5, 6 -> in.skipBytes(8);
                case 7, 8, 16, 19, 20 -> first[i] = in.readUnsignedShort();
                case 15 -> in.skipBytes(3);
                default -> {
                    first[i] = in.readUnsignedShort();
                    second[i] = in.readUnsignedShort();
                }
            }
            return tags[i] == 5 || tags[i] == 6 ? 1 : 0;
        }

        private void skipAttributes() throws IOException {
            int attributes = in.readUnsignedShort();
            for (int i = 0; i < attributes; i++) {
                in.skipBytes(2);
                in.skipBytes(in.readInt());
            }
        }

        private void readMethod() throws IOException {
            boolean isPublic = (in.readUnsignedShort() & 1) != 0;
            String method = name + "." + words[in.readUnsignedShort()] + words[in.readUnsignedShort()];
            CALLS.put(method, new TreeSet<>());
            if (isPublic && name.equals("EvenTen")) {
                PUBLIC.add(method);
            }
            int attributes = in.readUnsignedShort();
            for (int i = 0; i < attributes; i++) {
                boolean isCode = words[in.readUnsignedShort()].equals("Code");
                byte[] attribute = new byte[in.readInt()];
                in.readFully(attribute);
                if (isCode) {
                    readCode(method, ByteBuffer.wrap(attribute));
                }
            }
        }

        private void readCode(String method, ByteBuffer attribute) {
            int length = attribute.getInt(4);
            must(attribute.getShort(8 + length) == 0, "rule 6: " + method + " catches");
            ByteBuffer code = attribute.slice(8, length);
            for (int at = 0; at < length; at += lengthAt(code, at)) {
                look(method, code, at);
            }
        }

        private void look(String method, ByteBuffer code, int at) {
            int op = code.get(at) & 255;
            must(op != ATHROW, "rule 6: " + method + " throws");
            must(op != MONITORENTER, "rule 6: " + method + " is synchronized");
            must(op != CHECKCAST, "no cast of objects is of use in " + method);
            must(op != INVOKEDYNAMIC && op != INVOKEINTERFACE, "rule 2: " + method);
            boolean makes = op == NEW || op == NEWARRAY || op == ANEWARRAY || op == MULTIANEWARRAY;
            must(!makes || method.contains("<"), "a call makes an object: " + method);
            if (op >= INVOKEVIRTUAL && op <= INVOKESTATIC) {
                int constant = code.getShort(at + 1) & 0xffff;
                int called = second[constant];
                CALLS.get(method).add(words[first[first[constant]]] + "." + words[first[called]]
                    + words[second[called]]);
            }
        }
    }

    private static int lengthAt(ByteBuffer code, int at) {
        int op = code.get(at) & 255;
        int aligned = at + 4 - at % 4;
        if (op == TABLESWITCH) {
            return aligned + 12 + 4 * (code.getInt(aligned + 8) - code.getInt(aligned + 4) + 1) - at;
        }
        if (op == LOOKUPSWITCH) {
            return aligned + 8 + 8 * code.getInt(aligned + 4) - at;
        }
        if (op == WIDE) {
            return (code.get(at + 1) & 255) == IINC ? 6 : 4;
        }
        if (op == 0x10 || op == 0x12 || op >= 0x15 && op <= 0x19 || op >= 0x36 && op <= 0x3a
                || op == 0xa9 || op == NEWARRAY) {
            return 2;
        }
        if (op == INVOKEINTERFACE || op == INVOKEDYNAMIC || op == 0xc8 || op == 0xc9) {
            return 5;
        }
        boolean three = op == 0x11 || op == 0x13 || op == 0x14 || op == IINC || op >= 0x99 && op <= 0xa8
            || op >= 0xb2 && op <= NEW || op == ANEWARRAY || op == CHECKCAST || op == 0xc1
            || op == 0xc6 || op == 0xc7;
        return op == MULTIANEWARRAY ? 4 : three ? 3 : 1;
    }

    private static boolean isOwn(String method) {
        return method.startsWith("EvenTen.") || method.startsWith("EvenTen$");
    }

    private static void libraryOfRuleFour() {
        CALLS.forEach((method, calls) -> {
            for (String call : calls) {
                must(isOwn(call) ? CALLS.containsKey(call)
                    : LIBRARY.contains(call.substring(0, call.indexOf('('))),
                    "rule 4: " + method + " calls " + call);
            }
        });
    }

    /** The calls that can be open at once from a method on, each method counted once. */
    private static int depth(String method, Deque<String> open) {
        open.push(method);
        int deepest = 0;
        for (String call : CALLS.get(method)) {
            if (isOwn(call) && !open.contains(call)) {
                deepest = Math.max(deepest, depth(call, open));
            }
        }
        open.pop();
        return deepest + 1;
    }

    private static void depthOfRuleEleven() {
        must(PUBLIC.size() == 27, "27 promises have a method or a constructor: " + PUBLIC.size());
        for (String method : PUBLIC) {
            int depth = depth(method, new ArrayDeque<>());
            must(depth <= DEEPEST, "rule 11: " + method + " goes " + depth + " deep");
        }
    }

    private static void parametersOfRuleEleven() {
        for (String method : CALLS.keySet()) {
            String types = method.substring(method.indexOf('(') + 1, method.indexOf(')'));
            int parameters = types.replaceAll("\\[*(L[^;]*;|[A-Z])", "x").length();
            must(parameters <= MOST_PARAMETERS, "rule 11: " + method);
        }
    }

    private static void fieldsOfRuleThree(List<Class<?>> classes) {
        for (Class<?> one : classes) {
            for (Field field : one.getDeclaredFields()) {
                Class<?> type = field.getType();
                int dimensions = 0;
                while (type.isArray()) {
                    type = type.getComponentType();
                    dimensions++;
                }
                boolean number = type.isPrimitive() && type != boolean.class;
                must(type.isPrimitive() || type == String.class || classes.contains(type),
                    "rule 3: " + field);
                must(dimensions < 2 || dimensions == 2 && number, "rule 3: " + field);
            }
        }
    }

    /** No recursion goes more levels deep than there can be heaps, each through all its methods. */
    private static void openCallsOfRuleEight() {
        for (String method : PUBLIC) {
            int most = depth(method, new ArrayDeque<>()) * (MOST_LEVELS + 1);
            must(most < MOST_OPEN, "rule 8: " + method + " may have " + most + " calls open");
        }
    }

    public static void main(String[] args) throws IOException {
        List<Class<?>> classes = new ArrayList<>(List.of(EvenTen.class.getDeclaredClasses()));
        classes.add(EvenTen.class);
        for (Class<?> one : classes) {
            try (InputStream in = EvenTen.class.getResourceAsStream(one.getName() + ".class")) {
                new ClassFile(in.readAllBytes());
            }
        }
        libraryOfRuleFour();
        depthOfRuleEleven();
        parametersOfRuleEleven();
        fieldsOfRuleThree(classes);
        openCallsOfRuleEight();
        System.out.println(wrong == 0 ? "the rules hold" : wrong + " rules are broken");
        if (wrong != 0) {
            System.exit(1);
        }
    }
}
