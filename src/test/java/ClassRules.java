import java.io.ByteArrayInputStream;
import java.io.DataInputStream;
import java.io.IOException;
import java.io.InputStream;
import java.util.ArrayList;
import java.util.List;
import java.util.Map;
import java.util.Set;
import java.util.TreeMap;
import java.util.TreeSet;

/** Those rules of LANGUAGE.md that can be read off the compiled code: what it calls, how deep, how long it is. */
public final class ClassRules {
    private static final Map<String, Set<String>> LIBRARY = Map.ofEntries(
            entry("java/lang/Object", "<init>"),
            entry("java/lang/Record", "<init>"),
            entry("java/lang/Enum", "<init> ordinal valueOf"),
            entry("java/lang/String", "length charAt isEmpty equals indexOf substring toCharArray <init>"),
            entry("java/lang/StringBuilder", "<init> append charAt setCharAt setLength deleteCharAt reverse length"
                    + " toString"),
            entry("java/util/ArrayList", "<init> add get set remove size isEmpty clear iterator"),
            entry("java/util/List", "add get set remove size isEmpty clear iterator of"),
            entry("java/util/Iterator", "hasNext next"),
            entry("java/lang/Iterable", "iterator"),
            entry("java/lang/Comparable", "compareTo"),
            entry("java/lang/System", "arraycopy"),
            entry("java/util/Arrays", "copyOf copyOfRange fill"));
    private static final Set<String> NUMBERS = Set.of("java/lang/Integer", "java/lang/Long", "java/lang/Math");
    private static final Set<String> BOXES = Set.of("java/lang/Integer.valueOf", "java/lang/Integer.intValue");
    private static final int MOST_DEEP = 8;
    private static final int MOST_LINES = 66;

    private static final int TABLESWITCH = 0xaa;
    private static final int LOOKUPSWITCH = 0xab;
    private static final int WIDE = 0xc4;
    private static final int IINC = 0x84;

    private static final Map<String, Set<String>> CALLS = new TreeMap<>();
    private static final Set<String> OPEN = new TreeSet<>();
    private static final Map<String, Integer> DEPTHS = new TreeMap<>();
    private static final List<String> CHAIN = new ArrayList<>();
    private static int wrong = 0;

    private final DataInputStream in;
    private Object[] pool;
    private String owner;
    private String method;

    private ClassRules(byte[] file) {
        in = new DataInputStream(new ByteArrayInputStream(file));
    }

    private static Map.Entry<String, Set<String>> entry(String owner, String names) {
        return Map.entry(owner, Set.of(names.split(" ")));
    }

    private static void due(String what, boolean holds) {
        if (!holds) {
            wrong++;
            System.out.println("LANGUAGE.md: " + what);
        }
    }

    private void readPool() throws IOException {
        int size = in.readUnsignedShort();
        pool = new Object[size];
        for (int i = 1; i < size; i++) {
            int tag = in.readUnsignedByte();
            switch (tag) {
                case 1:
                    pool[i] = in.readUTF();
                    break;
                case 3: case 4:
                    in.readInt();
                    break;
                case 5: case 6:
                    in.readLong();
                    i++;
                    break;
                case 7: case 8: case 16: case 19: case 20:
                    pool[i] = new int[] {in.readUnsignedShort()};
                    break;
                case 9: case 10: case 11: case 12: case 17: case 18:
                    pool[i] = new int[] {in.readUnsignedShort(), in.readUnsignedShort()};
                    break;
                case 15:
                    in.readUnsignedByte();
                    in.readUnsignedShort();
                    break;
                default:
                    throw new IOException("a constant of kind " + tag);
            }
        }
    }

    private String text(int i) {
        return (String) pool[i];
    }

    private String className(int i) {
        return text(((int[]) pool[i])[0]);
    }

    /** A member's class and name, and what it takes and answers. */
    private String member(int i) {
        int[] its = (int[]) pool[i];
        int[] nameAndType = (int[]) pool[its[1]];
        return className(its[0]) + "." + text(nameAndType[0]) + ":" + text(nameAndType[1]);
    }

    private void skipAttributes() throws IOException {
        for (int left = in.readUnsignedShort(); left > 0; left--) {
            in.readUnsignedShort();
            in.skipNBytes(in.readInt());
        }
    }

    private void readClass() throws IOException {
        in.skipNBytes(8);
        readPool();
        in.readUnsignedShort();
        owner = className(in.readUnsignedShort());
        in.readUnsignedShort();
        in.skipNBytes(2L * in.readUnsignedShort());
        for (int left = in.readUnsignedShort(); left > 0; left--) {
            in.skipNBytes(6);
            skipAttributes();
        }
        for (int left = in.readUnsignedShort(); left > 0; left--) {
            readMethod();
        }
    }

    private void readMethod() throws IOException {
        boolean open = (in.readUnsignedShort() & 1) != 0;
        method = owner + "." + text(in.readUnsignedShort()) + ":" + text(in.readUnsignedShort());
        CALLS.put(method, new TreeSet<>());
        if (open && owner.equals("JoinLoom")) {
            OPEN.add(method);
        }
        for (int left = in.readUnsignedShort(); left > 0; left--) {
            boolean code = text(in.readUnsignedShort()).equals("Code");
            int length = in.readInt();
            if (code) {
                readCode();
            } else {
                in.skipNBytes(length);
            }
        }
    }

    private void readCode() throws IOException {
        in.readInt();
        byte[] code = in.readNBytes(in.readInt());
        int at = 0;
        while (at < code.length) {
            look(code, at);
            at += length(code, at);
        }
        due("the code of " + method + " was read wrongly", at == code.length);
        int caught = in.readUnsignedShort();
        due("rule 6: something is caught in " + method, caught == 0);
        in.skipNBytes(8L * caught);
        for (int left = in.readUnsignedShort(); left > 0; left--) {
            boolean lines = text(in.readUnsignedShort()).equals("LineNumberTable");
            int length = in.readInt();
            if (lines) {
                readLines();
            } else {
                in.skipNBytes(length);
            }
        }
    }

    private void readLines() throws IOException {
        int first = Integer.MAX_VALUE;
        int last = 0;
        for (int left = in.readUnsignedShort(); left > 0; left--) {
            in.readUnsignedShort();
            int line = in.readUnsignedShort();
            first = Math.min(first, line);
            last = Math.max(last, line);
        }
        boolean shared = method.contains(".<");
        due("rule 11: " + (last - first + 2) + " lines: " + method, shared || last - first + 2 <= MOST_LINES);
    }

    private static int two(byte[] code, int at) {
        return (code[at] & 255) << 8 | code[at + 1] & 255;
    }

    private static int four(byte[] code, int at) {
        return two(code, at) << 16 | two(code, at + 2);
    }

    private void look(byte[] code, int at) throws IOException {
        switch (code[at] & 255) {
            case 0xb6: case 0xb7: case 0xb8: case 0xb9:
                called(member(two(code, at + 1)));
                break;
            case 0xba:
                due("rules 2 and 10: a lambda or joined texts in " + method, method.matches(
                        ".*\\.(toString|hashCode|equals):.*"));
                break;
            case 0xb2:
                due("rule 4: " + member(two(code, at + 1)), member(two(code, at + 1)).startsWith("JoinLoom"));
                break;
            case 0xb3:
                due("rule 5: a static field is set in " + method, method.contains(".<clinit>:"));
                break;
            case 0xc2: case 0xc3:
                due("rule 6: a lock in " + method, false);
                break;
            default:
                break;
        }
    }

    private void called(String what) {
        CALLS.get(method).add(what);
        due("rule 4: " + what + " is called in " + method, isAllowed(what));
    }

    private static boolean isAllowed(String what) {
        String owner = what.substring(0, what.indexOf('.'));
        String name = what.substring(what.indexOf('.') + 1, what.indexOf(':'));
        String type = what.substring(what.indexOf(':') + 1);
        if (owner.startsWith("JoinLoom")) {
            return true;
        }
        if (NUMBERS.contains(owner)) {
            return BOXES.contains(owner + "." + name) || (type.matches("\\([IJ]*\\)[IJ]") && !name.endsWith("Exact"));
        }
        return owner.startsWith("[") ? name.equals("clone") : LIBRARY.getOrDefault(owner, Set.of()).contains(name);
    }

    /** How many bytes an instruction has, as the machine's book tells. */
    private static int length(byte[] code, int at) throws IOException {
        int op = code[at] & 255;
        int start = (at & ~3) + 4;
        if (op == TABLESWITCH) {
            return start + 12 + 4 * (four(code, start + 8) - four(code, start + 4) + 1) - at;
        }
        if (op == LOOKUPSWITCH) {
            return start + 8 + 8 * four(code, start + 4) - at;
        }
        if (op == WIDE) {
            return (code[at + 1] & 255) == IINC ? 6 : 4;
        }
        if (op > 0xc9) {
            throw new IOException("an instruction " + op);
        }
        boolean one = op == 0x10 || op == 0x12 || (op >= 0x15 && op <= 0x19) || (op >= 0x36 && op <= 0x3a) || op == 0xa9
                || op == 0xbc;
        boolean two = op == 0x11 || op == 0x13 || op == 0x14 || op == IINC || (op >= 0x99 && op <= 0xa8)
                || (op >= 0xb2 && op <= 0xb8) || op == 0xbb || op == 0xbd || op == 0xc0 || op == 0xc1 || op == 0xc6
                || op == 0xc7;
        if (op == 0xb9 || op == 0xba || op == 0xc8 || op == 0xc9) {
            return 5;
        }
        return op == 0xc5 ? 4 : two ? 3 : one ? 2 : 1;
    }

    /** How many calls of the class stand open at once, this one and those below; a recursion is counted once. */
    private static int depth(String name) {
        if (CHAIN.contains(name) || !CALLS.containsKey(name)) {
            return 0;
        }
        if (DEPTHS.containsKey(name)) {
            return DEPTHS.get(name);
        }
        CHAIN.add(name);
        int deepest = 0;
        for (String called : CALLS.get(name)) {
            deepest = Math.max(deepest, depth(called));
        }
        CHAIN.remove(name);
        DEPTHS.put(name, deepest + 1);
        return deepest + 1;
    }

    private static void readAll(Class<?> one) throws IOException {
        try (InputStream file = one.getResourceAsStream(one.getName() + ".class")) {
            new ClassRules(file.readAllBytes()).readClass();
        }
        for (Class<?> inner : one.getDeclaredClasses()) {
            readAll(inner);
        }
    }

    public static void main(String[] args) throws IOException {
        readAll(JoinLoom.class);
        int deepest = 0;
        for (String name : OPEN) {
            deepest = Math.max(deepest, depth(name));
            due("rule 11: " + name + " goes " + depth(name) + " deep", depth(name) <= MOST_DEEP);
        }
        due(OPEN.size() + " public ones were found", OPEN.size() == 27);
        System.out.println(CALLS.size() + " methods, calls at most " + deepest + " deep");
        System.out.println(wrong == 0 ? "all rules are kept" : wrong + " rules are broken");
        if (wrong != 0) {
            System.exit(1);
        }
    }
}
