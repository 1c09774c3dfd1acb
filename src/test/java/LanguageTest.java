import java.io.ByteArrayInputStream;
import java.io.DataInputStream;
import java.io.IOException;
import java.io.InputStream;
import java.lang.reflect.Field;
import java.lang.reflect.Method;
import java.lang.reflect.Modifier;
import java.nio.file.Files;
import java.nio.file.Path;
import java.util.ArrayList;
import java.util.HashMap;
import java.util.List;
import java.util.Map;
import java.util.Set;
import java.util.TreeMap;
import java.util.TreeSet;

/** Rules of ../shared/LANGUAGE.md that the compiled classes show: what is called, made and thrown, and how deep calls go. */
public final class LanguageTest {
    private static final Due DUE = new Due("LanguageTest");
    private static final int DEEPEST = 8;

    /** Rules 4 and 13: of the library, what the program may call. */
    private static final Set<String> LIBRARY = Set.of("java/lang/Object.<init>", "java/lang/String.length",
        "java/lang/String.charAt", "java/lang/String.isEmpty", "java/lang/String.equals", "java/lang/String.substring",
        "java/lang/String.toCharArray", "java/lang/Math.max", "java/lang/Math.min", "java/lang/Math.abs",
        "java/lang/Math.floorMod", "java/lang/Math.floorDiv", "java/lang/Integer.bitCount", "java/lang/Long.bitCount",
        "java/lang/System.arraycopy");
    /** Rule 3. */
    private static final String OWN = "LPaintedOver(\\$\\w+)?;";
    private static final String TYPE = "(\\[{0,2}[IJSBCZDF]|\\[?" + OWN + "|Ljava/lang/String(Builder)?;)";

    private static final int INVOKE_FIRST = 0xb6;
    private static final int INVOKE_DYNAMIC = 0xba;
    private static final int SPECIAL = 0xb7;
    private static final int STATIC = 0xb8;

    /** A call that stands in a method's code. */
    private record Call(int opcode, String owner, String name) {
    }

    /** A method's code, as far as the rules look at it. */
    private record Body(String owner, String name, Set<Integer> opcodes, List<Call> calls, int handlers) {
    }

    private static final Map<String, Body> BODIES = new TreeMap<>();
    private static final Map<String, String> SUPERS = new HashMap<>();

    public static void main(String[] args) throws IOException {
        for (Class<?> one : PaintedOver.class.getNestMembers()) {
            read(one.getName());
        }
        DUE.is("a class that is neither named nor static", PaintedOver.class.getNestMembers().length
            - PaintedOver.class.getDeclaredClasses().length, 1);
        names();
        types();
        for (Body body : BODIES.values()) {
            code(body);
        }
        for (Method method : PaintedOver.class.getDeclaredMethods()) {
            if (Modifier.isPublic(method.getModifiers())) {
                List<String> open = new ArrayList<>();
                int deep = depth("PaintedOver." + method.getName(), "PaintedOver", open);
                DUE.is("rule 11: " + method.getName() + " goes " + deep + " deep", deep <= DEEPEST ? 1 : 0, 1);
            }
        }
        files();
        DUE.end();
    }

    /** Rule 1: one name is either public or private, in whichever class. */
    private static void names() {
        Set<String> publicNames = new TreeSet<>();
        for (Method method : PaintedOver.class.getDeclaredMethods()) {
            if (Modifier.isPublic(method.getModifiers())) {
                publicNames.add(method.getName());
            }
        }
        for (Class<?> inside : PaintedOver.class.getDeclaredClasses()) {
            for (Method method : inside.getDeclaredMethods()) {
                DUE.is("rule 1: " + method, publicNames.contains(method.getName()) ? 1 : 0, 0);
                DUE.is("rule 6: " + method, Set.of("equals", "hashCode", "toString").contains(method.getName()) ? 1 : 0, 0);
            }
        }
    }

    private static void types() {
        for (Class<?> one : PaintedOver.class.getNestMembers()) {
            for (Field field : one.getDeclaredFields()) {
                String told = field.getType().descriptorString();
                DUE.is("rule 3: " + field, told.matches(TYPE) ? 1 : 0, 1);
                DUE.is("rule 2: " + field + " is of an inner class", field.isSynthetic() ? 1 : 0, 0);
                boolean isText = told.matches("[IJZC]|\\[[IJCB]|Ljava/lang/String;");
                DUE.is("rule 5: " + field, !Modifier.isStatic(field.getModifiers()) || isText ? 1 : 0, 1);
            }
            for (Method method : one.getDeclaredMethods()) {
                for (Class<?> type : method.getParameterTypes()) {
                    DUE.is("rule 3: " + method, type.descriptorString().matches(TYPE) ? 1 : 0, 1);
                }
            }
        }
    }

    private static void code(Body body) {
        String at = body.owner + "." + body.name;
        boolean makes = body.name.equals("<init>");
        DUE.is("rule 5: a static initialiser " + at, body.name.equals("<clinit>") ? 1 : 0, 0);
        DUE.is("rule 6: try in " + at, body.handlers, 0);
        for (int opcode : body.opcodes) {
            DUE.is("rule 6: throw in " + at, opcode == 0xbf ? 1 : 0, 0);
            DUE.is("rule 6: synchronized in " + at, opcode == 0xc2 ? 1 : 0, 0);
            DUE.is("rule 6: a cast in " + at, opcode == 0xc0 ? 1 : 0, 0);
            DUE.is("rules 2, 10: a lambda, or texts joined by +, in " + at, opcode == INVOKE_DYNAMIC ? 1 : 0, 0);
            boolean isNew = opcode == 0xbb || opcode == 0xbc || opcode == 0xbd || opcode == 0xc5;
            DUE.is("rule 12: made outside a constructor, in " + at, isNew && !makes ? 1 : 0, 0);
        }
        for (Call call : body.calls) {
            boolean own = SUPERS.containsKey(call.owner);
            DUE.is("rule 4: " + call.owner + "." + call.name + " in " + at,
                own || LIBRARY.contains(call.owner + "." + call.name) ? 1 : 0, 1);
            boolean overridable = own && makes && call.opcode != STATIC && !call.name.equals("<init>");
            DUE.is("rule 12: a constructor calls " + call.name, overridable ? 1 : 0, 0);
        }
    }

    // ==== Rules 8 and 11: how deep calls go

    /** How many calls stand open at most from that method on; it runs on an object of class own. */
    private static int depth(String method, String own, List<String> open) {
        Body body = BODIES.get(method);
        if (body == null || open.contains(method)) {
            DUE.is("rule 8: " + method + " calls itself", body == null ? 0 : 1, 0);
            return 0;
        }
        open.add(method);
        int most = 0;
        for (Call call : body.calls) {
            for (String runs : mayRun(call, own)) {
                String owner = found(call.opcode == SPECIAL || call.opcode == STATIC ? call.owner : runs, call.name);
                most = Math.max(most, depth(owner + "." + call.name, runs, open));
            }
        }
        open.remove(method);
        return 1 + most;
    }

    /** On objects of which classes a call runs: that of the caller, if it may be, or each under the one that is named. */
    private static List<String> mayRun(Call call, String own) {
        List<String> all = new ArrayList<>();
        if (!SUPERS.containsKey(call.owner)) {
            return all;
        }
        if (call.opcode == STATIC) {
            all.add(call.owner);
        } else if (isUnder(own, call.owner)) {
            all.add(own);
        } else {
            for (String one : SUPERS.keySet()) {
                if (isUnder(one, call.owner)) {
                    all.add(one);
                }
            }
        }
        return all;
    }

    private static boolean isUnder(String one, String other) {
        for (String c = one; c != null; c = SUPERS.get(c)) {
            if (c.equals(other)) {
                return true;
            }
        }
        return false;
    }

    private static String found(String owner, String name) {
        String at = owner;
        while (at != null && !BODIES.containsKey(at + "." + name)) {
            at = SUPERS.get(at);
        }
        return at;
    }

    // ==== Class files

    private static void read(String name) throws IOException {
        try (InputStream file = LanguageTest.class.getResourceAsStream("/" + name + ".class")) {
            DataInputStream in = new DataInputStream(new ByteArrayInputStream(file.readAllBytes()));
            in.readLong();
            String[] texts = new String[in.readUnsignedShort()];
            int[] firsts = new int[texts.length];
            int[] seconds = new int[texts.length];
            constants(in, texts, firsts, seconds);
            in.readUnsignedShort();
            in.readUnsignedShort();
            SUPERS.put(name, texts[firsts[in.readUnsignedShort()]]);
            in.skipBytes(2 * in.readUnsignedShort());
            for (int fieldsThenMethods = 0; fieldsThenMethods < 2; fieldsThenMethods++) {
                int members = in.readUnsignedShort();
                for (int n = 0; n < members; n++) {
                    member(in, name, texts, firsts, seconds);
                }
            }
        }
    }

    private static void constants(DataInputStream in, String[] texts, int[] firsts, int[] seconds) throws IOException {
        for (int i = 1; i < texts.length; i++) {
            int tag = in.readUnsignedByte();
            switch (tag) {
                case 1:
                    texts[i] = in.readUTF();
                    break;
                case 5:
                case 6:
                    in.readLong();
                    i++;
                    break;
                case 7:
                case 8:
                case 16:
                case 19:
                case 20:
                    firsts[i] = in.readUnsignedShort();
                    break;
                case 15:
                    in.skipBytes(3);
                    break;
                default:
                    firsts[i] = in.readUnsignedShort();
                    seconds[i] = in.readUnsignedShort();
                    break;
            }
        }
    }

    private static void member(DataInputStream in, String owner, String[] texts, int[] firsts, int[] seconds) throws IOException {
        in.readUnsignedShort();
        String name = texts[in.readUnsignedShort()];
        in.readUnsignedShort();
        int attributes = in.readUnsignedShort();
        for (int n = 0; n < attributes; n++) {
            boolean isCode = texts[in.readUnsignedShort()].equals("Code");
            byte[] bytes = new byte[in.readInt()];
            in.readFully(bytes);
            if (isCode) {
                body(bytes, owner, name, texts, firsts, seconds);
            }
        }
    }

    private static void body(byte[] bytes, String owner, String name, String[] texts, int[] firsts, int[] seconds) throws IOException {
        DataInputStream in = new DataInputStream(new ByteArrayInputStream(bytes));
        in.readInt();
        byte[] code = new byte[in.readInt()];
        in.readFully(code);
        Body body = new Body(owner, name, new TreeSet<>(), new ArrayList<>(), in.readUnsignedShort());
        for (int at = 0; at < code.length; at += length(code, at)) {
            int opcode = code[at] & 255;
            body.opcodes.add(opcode);
            if (opcode >= INVOKE_FIRST && opcode < INVOKE_DYNAMIC) {
                int method = two(code, at + 1);
                body.calls.add(new Call(opcode, texts[firsts[firsts[method]]], texts[firsts[seconds[method]]]));
            }
        }
        DUE.is("two methods of one name: " + owner + "." + name, BODIES.put(owner + "." + name, body) == null ? 1 : 0, 1);
    }

    private static int two(byte[] code, int at) {
        return (code[at] & 255) << 8 | code[at + 1] & 255;
    }

    private static int four(byte[] code, int at) {
        return two(code, at) << 16 | two(code, at + 2);
    }

    /** How many bytes the instruction there has. */
    private static int length(byte[] code, int at) {
        int opcode = code[at] & 255;
        int aligned = at + 4 - at % 4;
        switch (opcode) {
            case 0x10: case 0x12: case 0x15: case 0x16: case 0x17: case 0x18: case 0x19:
            case 0x36: case 0x37: case 0x38: case 0x39: case 0x3a: case 0xa9: case 0xbc:
                return 2;
            case 0xaa:
                return aligned - at + 12 + 4 * (four(code, aligned + 8) - four(code, aligned + 4) + 1);
            case 0xab:
                return aligned - at + 8 + 8 * four(code, aligned + 4);
            case 0xb9: case 0xba: case 0xc8: case 0xc9:
                return 5;
            case 0xc4:
                return (code[at + 1] & 255) == 0x84 ? 6 : 4;
            case 0xc5:
                return 4;
            default:
                boolean three = opcode == 0x11 || opcode == 0x13 || opcode == 0x14 || opcode == 0x84
                    || opcode >= 0x99 && opcode <= 0xa8 || opcode >= 0xb2 && opcode <= 0xb8 || opcode == 0xbb
                    || opcode == 0xbd || opcode == 0xc0 || opcode == 0xc1 || opcode == 0xc6 || opcode == 0xc7;
                return three ? 3 : 1;
        }
    }

    /** The program is one file without a package, and its signs are 1 to 127. */
    private static void files() throws IOException {
        try (var files = Files.walk(Path.of("src/main"))) {
            DUE.is("one file", files.filter(Files::isRegularFile).count(), 1);
        }
        int strange = 0;
        for (byte sign : Files.readAllBytes(Path.of("src/main/java/PaintedOver.java"))) {
            strange += sign <= 0 ? 1 : 0;
        }
        DUE.is("rule 4: signs that are not 1 to 127", strange, 0);
        DUE.is("without a package", PaintedOver.class.getPackageName().isEmpty() ? 1 : 0, 1);
    }
}
