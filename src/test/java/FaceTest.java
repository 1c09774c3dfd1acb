import java.io.IOException;
import java.lang.reflect.Constructor;
import java.lang.reflect.Field;
import java.lang.reflect.Method;
import java.lang.reflect.Modifier;
import java.nio.file.Files;
import java.nio.file.Path;
import java.util.Arrays;
import java.util.List;
import java.util.Set;
import java.util.TreeSet;

/** The public face, as the document gives it, and some of the rules of ../shared/LANGUAGE.md. */
public final class FaceTest {
    private static final Due DUE = new Due("FaceTest");

    private static final String FACE = "int row(int,int,int)|int set(int,int,long)|int copy(int,int,int,int,int)"
        + "|long element(int,int)|int show(int,int)|int holds(int)|int says(int,int)|int house(int,int)"
        + "|int houseOf(int,int)|int colour(int,int,int)|int ask(int,int)|int coat(int,int,int,int,int)"
        + "|int coatOf(int,int,int)|int street(int)|int fault()|int seen(int,int,int)|int wet(int,int,int)"
        + "|int deep(int,int)|int skin(int)|int hailed(int,int,int)|int razor(int,int,int)|int hidden(int,int)"
        + "|int shown(int,int)|int firstWet(int,int)|int paint(int,int,int)|int gap(int,int)|int moves(int,int)"
        + "|int orders(int,int,int)|int forged(int,int)|int lane(int,int)|int price(int,int)|int hail(int)"
        + "|int scratch(int,int)|int falls()|int years(int)|int seed(int)|int act(int,int,int)|int trace(int)"
        + "|int image()|int restore()|int status(int)";

    /** Words and signs that no line of the program's code may hold. */
    private static final List<String> RULED_OUT = List.of("\\bthrow\\b", "\\btry\\b", "\\bcatch\\b", "\\bsynchronized\\b",
        "\\bassert\\b", "->", "::", "@", "\\bprotected\\b", "\\bpackage\\b", "\\bimport\\b", "Exact\\(", "\\bequals\\(",
        "\\bhashCode\\(", "\\btoString\\(", "\\bObject\\b", "\\bnew \\w+\\([^)]*\\) \\{", "while \\(true\\)", "for \\(;;\\)");

    public static void main(String[] args) throws IOException {
        methods();
        otherMembers();
        sizes();
        ruledOut();
        methodLengths();
        DUE.end();
    }

    private static String signature(Method method) {
        StringBuilder told = new StringBuilder();
        told.append(method.getReturnType().getName()).append(' ').append(method.getName()).append('(');
        String comma = "";
        for (Class<?> type : method.getParameterTypes()) {
            told.append(comma).append(type.getName());
            comma = ",";
        }
        return told.append(')').toString();
    }

    private static void methods() {
        Set<String> due = new TreeSet<>(Arrays.asList(FACE.split("\\|")));
        Set<String> names = new TreeSet<>();
        for (String signature : due) {
            names.add(signature.substring(signature.indexOf(' ') + 1, signature.indexOf('(')));
        }
        Set<String> told = new TreeSet<>();
        for (Method method : PaintedOver.class.getDeclaredMethods()) {
            if (Modifier.isPublic(method.getModifiers()) && !Modifier.isStatic(method.getModifiers())) {
                told.add(signature(method));
            } else {
                DUE.is(method + " is private", Modifier.isPrivate(method.getModifiers()) ? 1 : 0, 1);
                DUE.is(method + " bears a public name", names.contains(method.getName()) ? 1 : 0, 0);
            }
        }
        DUE.is("methods of the face", due.size(), 41);
        DUE.is("the face " + told + " is as due", told.equals(due) ? 1 : 0, 1);
    }

    private static void otherMembers() {
        int modifiers = PaintedOver.class.getModifiers();
        DUE.is("public and final", Modifier.isPublic(modifiers) && Modifier.isFinal(modifiers) ? 1 : 0, 1);
        for (Field field : PaintedOver.class.getDeclaredFields()) {
            boolean isNone = field.getName().equals("NONE");
            DUE.is(field + " is private", Modifier.isPrivate(field.getModifiers()) == isNone ? 1 : 0, 0);
        }
        Constructor<?>[] constructors = PaintedOver.class.getDeclaredConstructors();
        DUE.is("constructors", constructors.length, 1);
        DUE.is("its parameters", constructors[0].getParameterCount(), 0);
        DUE.is("a public one", Modifier.isPublic(constructors[0].getModifiers()) ? 1 : 0, 1);
        Class<?>[] inside = PaintedOver.class.getDeclaredClasses();
        DUE.is("classes, at most some twelve", inside.length + 1 <= 12 ? 1 : 0, 1);
        for (Class<?> one : inside) {
            DUE.is(one + " is static", Modifier.isStatic(one.getModifiers()) ? 1 : 0, 1);
            DUE.is(one + " is public", Modifier.isPublic(one.getModifiers()) ? 1 : 0, 0);
            for (Field field : one.getDeclaredFields()) {
                boolean staticState = Modifier.isStatic(field.getModifiers()) && !Modifier.isFinal(field.getModifiers());
                DUE.is(field + " is static state", staticState ? 1 : 0, 0);
            }
        }
    }

    private static List<Class<?>> classes() {
        List<Class<?>> all = new java.util.ArrayList<>(Arrays.asList(PaintedOver.class.getDeclaredClasses()));
        all.add(PaintedOver.class);
        return all;
    }

    /** Rules 5 and 11: seven parameters, twenty fields at most; static fields are final. */
    private static void sizes() {
        for (Class<?> one : classes()) {
            for (Method method : one.getDeclaredMethods()) {
                DUE.is(method + " has seven parameters at most", method.getParameterCount() <= 7 ? 1 : 0, 1);
            }
            int fields = 0;
            for (Field field : one.getDeclaredFields()) {
                boolean isStatic = Modifier.isStatic(field.getModifiers());
                fields += isStatic ? 0 : 1;
                DUE.is(field + " is final if static", !isStatic || Modifier.isFinal(field.getModifiers()) ? 1 : 0, 1);
            }
            DUE.is(one + " has twenty fields at most", fields <= 20 ? 1 : 0, 1);
        }
    }

    /** Rule 11: methods have some sixty lines at most. A method begins and ends at the indent of its class's members. */
    private static void methodLengths() throws IOException {
        List<String> lines = Files.readAllLines(Path.of("src/main/java/PaintedOver.java"));
        int[] begun = new int[20];
        for (int i = 0; i < lines.size(); i++) {
            String line = lines.get(i);
            int indent = line.length() - line.stripLeading().length();
            boolean isClass = line.contains(" class ") || line.startsWith("public");
            if (line.endsWith("{") && indent <= 8) {
                begun[indent] = isClass ? Integer.MAX_VALUE : i;
            } else if (line.strip().equals("}") && indent <= 8) {
                DUE.is("lines of what ends in line " + (i + 1), i - begun[indent] < 60 ? 1 : 0, 1);
            }
        }
    }

    private static void ruledOut() throws IOException {
        List<String> lines = Files.readAllLines(Path.of("src/main/java/PaintedOver.java"));
        for (int i = 0; i < lines.size(); i++) {
            String code = lines.get(i).strip();
            if (code.startsWith("*") || code.startsWith("/*") || code.startsWith("//")) {
                continue;
            }
            for (String ruled : RULED_OUT) {
                boolean found = java.util.regex.Pattern.compile(ruled).matcher(code).find();
                DUE.is("line " + (i + 1) + " with " + ruled, found ? 1 : 0, 0);
            }
        }
    }
}
