import java.lang.reflect.Constructor;
import java.lang.reflect.Field;
import java.lang.reflect.Method;
import java.lang.reflect.Modifier;
import java.nio.file.Files;
import java.nio.file.Path;
import java.util.ArrayList;
import java.util.Arrays;
import java.util.List;
import java.util.Set;
import java.util.TreeSet;
import java.util.regex.Pattern;

/** The class has the document's face and no more, and its text keeps to what LANGUAGE.md lets be seen in it. */
public final class FaceTest {
    private static final Check CHECK = new Check();
    private static final Path SOURCE = Path.of("src", "main", "java", "WavePlan.java");
    private static final Path DOCUMENT = Path.of("..", "shared", "DOC.md");
    private static final String HEADER = "^( {4}| {8})[\\w\\[\\] ]*\\w\\(.*\\)( throws .*)? \\{$";
    private static final String[] FACE = {
        "int mast 4", "int move 2", "int list 2", "int gap 2", "int stay 2", "int row 3", "int own 2", "int border 4",
        "int turn 0", "int bar 2", "int may 2", "int set 2", "int channel 1", "int of 1", "int harm 0", "int kept 0",
        "int broken 1", "int pair 2", "int plan 1", "int tries 0", "int least 0", "int span 0", "int better 1",
        "int fewest 1", "int bound 1", "int crowd 0", "int part 1", "int image 0", "int restore 0", "int count 1",
        "int look 2", "int keep 3", "int make 3", "long element 2", "int copy 5", "int weight 1", "int toss 1"
    };
    private static final String[] BANNED = {
        "->", "::", "\\bfinally\\b", "\\bsynchronized\\b", "\\bassert\\b", "getMessage", "hashCode", "toString",
        "Exact\\b", "\\bException\\b", "\\bThrowable\\b", "\\bError\\b", "ArrayIndexOutOfBounds", "NullPointer",
        "ClassCast", "NegativeArraySize", "ArrayStore", "\\bpackage\\b", "\\bSystem\\.(?!arraycopy)", "\\bstatic \\{",
        "\\bdouble\\b", "\\bfloat\\b", "MAX_VALUE", "MIN_VALUE"
    };

    public static void main(String[] args) throws Exception {
        face();
        faceOfDocument();
        inside();
        text();
        CHECK.finish();
    }

    private static void face() {
        CHECK.isTrue("the class is public and final",
                Modifier.isPublic(WavePlan.class.getModifiers()) && Modifier.isFinal(WavePlan.class.getModifiers()));
        Set<String> due = new TreeSet<>(Arrays.asList(FACE));
        Set<String> found = new TreeSet<>();
        Set<String> names = new TreeSet<>();
        for (Method m : WavePlan.class.getDeclaredMethods()) {
            if (Modifier.isPrivate(m.getModifiers())) {
                continue;
            }
            found.add(m.getReturnType() + " " + m.getName() + " " + m.getParameterCount());
            names.add(m.getName());
            CHECK.isTrue(m.getName() + " is public and takes ints alone", m.getModifiers() == Modifier.PUBLIC
                    && Arrays.stream(m.getParameterTypes()).allMatch(t -> t == int.class));
            List<Class<?>> thrown = Arrays.asList(m.getExceptionTypes());
            CHECK.isTrue(m.getName() + " tells what it throws", thrown.equals(m.getName().equals("element")
                    ? List.of(IllegalArgumentException.class, IllegalStateException.class) : List.of()));
        }
        CHECK.isTrue("the methods are " + due + ", found " + found, due.equals(found));
        Constructor<?>[] constructors = WavePlan.class.getDeclaredConstructors();
        CHECK.isTrue("one public constructor without parameters", constructors.length == 1
                && constructors[0].getModifiers() == Modifier.PUBLIC && constructors[0].getParameterCount() == 0);
        for (Method m : WavePlan.class.getDeclaredMethods()) {
            CHECK.isTrue("no private method is called " + m.getName(),
                    !Modifier.isPrivate(m.getModifiers()) || !names.contains(m.getName()));
        }
    }

    /** The document's own lines, in its order, parameters by their names. */
    private static void faceOfDocument() throws Exception {
        if (!Files.exists(DOCUMENT)) {
            return;
        }
        List<String> told = new ArrayList<>();
        for (String line : Files.readAllLines(DOCUMENT)) {
            if (line.startsWith("    public ") && line.endsWith(";")) {
                told.add(line.substring(0, line.length() - 1));
            }
        }
        List<String> written = new ArrayList<>();
        for (String line : Files.readAllLines(SOURCE)) {
            if (line.startsWith("    public ") && line.endsWith(" {")) {
                written.add(line.substring(0, line.length() - 2));
            }
        }
        CHECK.due("lines of the document's face", told.size(), FACE.length + 1);
        CHECK.isTrue("the face is the document's, line by line: " + written, told.equals(written));
    }

    private static void inside() {
        Class<?>[] inner = WavePlan.class.getDeclaredClasses();
        CHECK.isTrue("at most twelve classes", inner.length + 1 <= 12);
        fieldsOf(WavePlan.class);
        for (Class<?> c : inner) {
            CHECK.isTrue(c + " is static", Modifier.isStatic(c.getModifiers()));
            fieldsOf(c);
            for (Method m : c.getDeclaredMethods()) {
                boolean ofTheFace = Arrays.stream(FACE).anyMatch(f -> f.split(" ")[1].equals(m.getName()));
                CHECK.isTrue(m + " doesn't bear the name of a public one", !ofTheFace);
            }
        }
        for (Field f : WavePlan.class.getDeclaredFields()) {
            CHECK.isTrue(f + " is private", Modifier.isPrivate(f.getModifiers()));
        }
    }

    private static void fieldsOf(Class<?> c) {
        int own = 0;
        for (Field f : c.getDeclaredFields()) {
            boolean isStatic = Modifier.isStatic(f.getModifiers());
            own += isStatic ? 0 : 1;
            CHECK.isTrue(f + " is final if static", !isStatic || Modifier.isFinal(f.getModifiers()));
        }
        CHECK.isTrue(c + " has at most twenty fields", own <= 20);
        for (Method m : c.getDeclaredMethods()) {
            CHECK.isTrue(m + " has at most seven parameters", m.getParameterCount() <= 7);
        }
    }

    private static void text() throws Exception {
        List<String> lines = Files.readAllLines(SOURCE);
        for (int i = 0; i < lines.size(); i++) {
            String line = lines.get(i);
            for (String banned : BANNED) {
                CHECK.isTrue("line " + (i + 1) + " without " + banned + ": " + line, !found(banned, line));
            }
            CHECK.isTrue("import of line " + (i + 1), !line.startsWith("import ")
                    || line.equals("import java.util.Arrays;"));
            if (found(HEADER, line)) {
                String indent = line.substring(0, line.length() - line.stripLeading().length());
                int end = i + lines.subList(i, lines.size()).indexOf(indent + "}");
                CHECK.isTrue("the method of line " + (i + 1) + " is short", end > i && end - i < 60);
            }
        }
    }

    private static boolean found(String pattern, String line) {
        return Pattern.compile(pattern).matcher(line).find();
    }
}
