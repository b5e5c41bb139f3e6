import java.lang.reflect.Constructor;
import java.lang.reflect.Field;
import java.lang.reflect.Method;
import java.lang.reflect.Modifier;
import java.nio.file.Files;
import java.nio.file.Path;
import java.util.Arrays;
import java.util.Set;
import java.util.TreeSet;
import java.util.regex.Pattern;

/** The public face of the document, and those rules of LANGUAGE.md that can be seen without reading closely. */
public final class FaceTest {
    private static final Due due = new Due("FaceTest");
    private static final Path DOCUMENT = Path.of("../shared/DOC.md");
    private static final String SOURCE = "src/main/java/ZObjects.java";
    private static final String[] FACE = {
        "int type(long, int)", "int object()", "int count()", "int peek(int)", "int poke(int, int)",
        "boolean strict(boolean)", "int parent(int)", "int child(int)", "int sibling(int)", "int move(int, int)",
        "int remove(int)", "int attribute(int, int, int)", "int property(int, int)", "int put(int, int, int)",
        "int next(int, int)", "int address(int, int)", "int length(int)", "int fallback(int, int)",
        "int name(int, int)", "int named(int)", "int within(int, int)", "int judge()", "int ring(int)",
    };
    private static final String[] RULED_OUT = {
        "\\b(throw|throws|try|catch|synchronized|assert|volatile|transient|native)\\b", "->", "::",
        "\\bstatic\\s*\\{", "\\.(hashCode|getClass|toString)\\(", "Exact\\(",
        "\\bimport (?!java\\.util\\.(Arrays|ArrayList|List|Iterator);)",
        "\\bpackage\\b", "System\\.(?!arraycopy)", "@",
    };

    public static void main(String[] args) throws Exception {
        face();
        faceInTheDocument();
        members();
        shape(ZObjects.class);
        for (Class<?> inside : ZObjects.class.getDeclaredClasses()) {
            shape(inside);
        }
        due.is("at most twelve classes", ZObjects.class.getDeclaredClasses().length < 12, true);
        lengths();
        words();
        due.end();
    }

    private static void face() {
        Set<String> want = new TreeSet<>(Arrays.asList(FACE));
        Set<String> got = new TreeSet<>();
        for (Method method : ZObjects.class.getDeclaredMethods()) {
            if (!Modifier.isPrivate(method.getModifiers()) && !method.isSynthetic()) {
                String types = Arrays.toString(method.getParameterTypes()).replace("[", "(").replace("]", ")");
                got.add(method.getReturnType() + " " + method.getName() + types);
                due.is(method.getName() + " is public", Modifier.isPublic(method.getModifiers()), true);
            }
        }
        due.is("the methods", got.toString(), want.toString());
        due.is("the class is public and final", ZObjects.class.getModifiers() & 0xffff,
                Modifier.PUBLIC | Modifier.FINAL);
        Constructor<?>[] made = ZObjects.class.getDeclaredConstructors();
        due.is("one constructor", made.length, 1);
        due.is("of a version", Arrays.toString(made[0].getParameterTypes()), "[int]");
    }

    /** That the face above is the document's: its lines without the names of what they take. */
    private static void faceInTheDocument() throws Exception {
        if (!Files.exists(DOCUMENT)) {
            System.out.println("FaceTest: the document was not found, its face is not looked up");
            return;
        }
        String text = Files.readString(DOCUMENT);
        int from = text.indexOf("```java\n", text.indexOf("## The public face"));
        Set<String> want = new TreeSet<>(Arrays.asList(FACE));
        want.add("final class ZObjects {");
        want.add("ZObjects(int)");
        Set<String> got = new TreeSet<>();
        for (String line : text.substring(from, text.indexOf("\n}", from)).split("\n")) {
            if (line.contains("public ")) {
                got.add(line.replaceAll("^ *public |;$", "").replaceAll("(int|long|boolean) \\w+(?=[,)])", "$1"));
            }
        }
        due.is("the document's face", got.toString(), want.toString());
    }

    private static void members() {
        for (Field field : ZObjects.class.getDeclaredFields()) {
            due.is(field.getName() + " is private", Modifier.isPrivate(field.getModifiers()), true);
        }
        for (Class<?> inside : ZObjects.class.getDeclaredClasses()) {
            due.is(inside.getName() + " is static", Modifier.isStatic(inside.getModifiers()), true);
            for (Method method : inside.getDeclaredMethods()) {
                boolean isOfTheFace = false;
                for (String of : FACE) {
                    isOfTheFace |= of.contains(" " + method.getName() + "(");
                }
                due.is(method.getName() + " has a name of its own", isOfTheFace, false);
            }
        }
    }

    /** Rules 3, 5 and 11, as far as fields and parameters tell. */
    private static void shape(Class<?> of) {
        int fields = 0;
        for (Field field : of.getDeclaredFields()) {
            String name = of.getSimpleName() + "." + field.getName();
            boolean isStatic = Modifier.isStatic(field.getModifiers());
            Class<?> type = field.getType();
            fields += isStatic ? 0 : 1;
            due.is(name + " is final, if static", isStatic && !Modifier.isFinal(field.getModifiers()), false);
            due.is(name + " is a constant, if static", isStatic && !type.isPrimitive() && type != String.class, false);
            due.is(name + " is of a type allowed", type.isPrimitive() || type == String.class
                    || type.isArray() && type.getComponentType().isPrimitive()
                    || type.getEnclosingClass() == ZObjects.class, true);
        }
        due.is(of.getSimpleName() + " has at most twenty fields", fields <= 20, true);
        for (Method method : of.getDeclaredMethods()) {
            due.is(method.getName() + " takes at most seven", method.getParameterCount() <= 7, true);
        }
    }

    /** Rules 11 and 12: methods stay short and make nothing; one ends with a brace as deep as its first line. */
    private static void lengths() throws Exception {
        String head = "";
        int since = 0;
        for (String line : Files.readAllLines(Path.of(SOURCE))) {
            since++;
            boolean isInCall = !head.isEmpty() && !head.matches(" *(public )?[A-Z]\\w*\\(.*");
            due.is(head.trim() + " makes nothing", isInCall && line.matches(".*\\b(new|clone|copyOf\\w*)\\b.*"), false);
            if (line.matches("( {4}| {8})\\w.*\\) \\{") && !line.matches(" *(if|for|while|switch)\\b.*")) {
                head = line;
                since = 0;
            } else if (!head.isEmpty() && line.equals(head.replaceAll("\\S.*", "") + "}")) {
                due.is(head.trim() + " has at most sixty lines", since <= 60, true);
                head = "";
            }
        }
    }

    private static void words() throws Exception {
        String source = Files.readString(Path.of(SOURCE));
        String code = source.replaceAll("(?s)/\\*.*?\\*/", "").replaceAll("//[^\n]*", "");
        for (String ruledOut : RULED_OUT) {
            due.is("finding " + ruledOut, Pattern.compile(ruledOut).matcher(code).find(), false);
        }
    }
}
