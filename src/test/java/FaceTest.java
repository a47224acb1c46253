import java.io.IOException;
import java.lang.reflect.Constructor;
import java.lang.reflect.Field;
import java.lang.reflect.Method;
import java.lang.reflect.Modifier;
import java.nio.charset.StandardCharsets;
import java.nio.file.Files;
import java.nio.file.Path;
import java.util.List;
import java.util.Set;
import java.util.TreeSet;
import java.util.regex.Matcher;
import java.util.regex.Pattern;

/** The class has the document's face and no more, and keeps to what of LANGUAGE.md can be seen from here. */
public final class FaceTest {
    private static final Path SOURCE = Path.of("src/main/java/PhaseCells.java");
    private static final Set<String> FACE = Set.of(
        "int grid(int,int)", "int wave(int,int)", "int sets(int,int)", "int sample(int,int,int,int,int,int)",
        "int echo(int,int,int,int,int)", "int shines(int,int,int,int)", "int clears(int,int,int)",
        "int raw(int,int,int,int,int)", "int of(int,int,int,int,int)", "int bits(int,int,int,int,int)",
        "int wraps(int,int,int,int)", "int away(int,int,int,int,int)", "int mark(int,int,int)",
        "int cell(int,int,int,int)", "int glow(int,int,int)", "int motion(int,int)", "int marks(int,int)",
        "int moved()", "long mean(int)", "int told(int)", "int type(int)", "int clear()", "int does()", "int back()",
        "int refused(int)", "long digest()");
    private static final List<String> NOT_IN_SOURCE = List.of("->", "::", "\\bcatch\\b", "\\bfinally\\b",
        "\\bsynchronized\\b", "\\bassert\\b", "\\bstatic \\{", "Float\\.", "Double\\.", "System\\.(?!arraycopy)",
        "Exact\\(", "\\bpackage\\b", "\\bprotected\\b", "String\\b", "\\bthrow\\b", "\\[\\]\\[\\]\\[\\]", "Object\\b");
    private static int wrong = 0;

    private FaceTest() {
    }

    public static void main(String[] args) throws IOException {
        classIsPublicAndFinal();
        methodsAreTheFace();
        constantsAreTheFace();
        String code = Files.readString(SOURCE, StandardCharsets.US_ASCII)
            .replaceAll("(?s)/\\*.*?\\*/", " ").replaceAll("//[^\n]*", "");
        importsAreListed(code);
        for (String pattern : NOT_IN_SOURCE) {
            Matcher found = Pattern.compile(pattern).matcher(code);
            check(!found.find(), "the source has " + pattern);
        }
        objectsAreMadeOnce(code);
        System.out.println(wrong == 0 ? "the face is as due" : wrong + " faults in the face");
        if (wrong != 0) {
            System.exit(1);
        }
    }

    private static void check(boolean right, String otherwise) {
        if (!right) {
            wrong++;
            System.out.println(otherwise);
        }
    }

    private static void classIsPublicAndFinal() {
        int m = PhaseCells.class.getModifiers();
        check(Modifier.isPublic(m) && Modifier.isFinal(m), "the class is not public and final");
        Constructor<?>[] made = PhaseCells.class.getDeclaredConstructors();
        check(made.length == 1 && Modifier.isPublic(made[0].getModifiers()) && made[0].getParameterCount() == 0,
            "the constructor is not the face's");
        for (Class<?> inside : PhaseCells.class.getDeclaredClasses()) {
            int n = inside.getModifiers();
            check(Modifier.isStatic(n) && !Modifier.isPublic(n) && !Modifier.isProtected(n), inside + " is open");
            for (Method method : inside.getDeclaredMethods()) {
                check(!namesOfFace().contains(method.getName()), method + " has a name of the face");
            }
        }
    }

    private static Set<String> namesOfFace() {
        Set<String> names = new TreeSet<>();
        for (String method : FACE) {
            names.add(method.replaceAll("^\\w+ (\\w+)\\(.*", "$1"));
        }
        return names;
    }

    private static void methodsAreTheFace() {
        Set<String> open = new TreeSet<>();
        for (Method method : PhaseCells.class.getDeclaredMethods()) {
            int m = method.getModifiers();
            if (method.isSynthetic()) {
                continue;
            }
            if (Modifier.isPrivate(m)) {
                check(!namesOfFace().contains(method.getName()), method + " has a name of the face");
                continue;
            }
            check(Modifier.isPublic(m) && !Modifier.isStatic(m), method + " is not as the face");
            StringBuilder shown = new StringBuilder(method.getReturnType() + " " + method.getName() + "(");
            for (int i = 0; i < method.getParameterCount(); i++) {
                shown.append(i == 0 ? "" : ",").append(method.getParameterTypes()[i]);
            }
            open.add(shown.append(")").toString());
        }
        check(open.equals(new TreeSet<>(FACE)), "the face is " + open);
    }

    private static void constantsAreTheFace() {
        Set<String> open = new TreeSet<>();
        for (Field field : PhaseCells.class.getDeclaredFields()) {
            if (!Modifier.isPrivate(field.getModifiers())) {
                open.add(field.getName());
            }
        }
        check(open.equals(new TreeSet<>(Set.of("NONE", "BAD", "NO", "FULL"))), "open fields are " + open);
        check(PhaseCells.NONE == -10001 && PhaseCells.BAD == -10002 && PhaseCells.NO == -10003
            && PhaseCells.FULL == -10004, "the constants are not the face's");
    }

    private static void importsAreListed(String code) {
        Matcher imports = Pattern.compile("import ([\\w.*]+);").matcher(code);
        while (imports.find()) {
            check(imports.group(1).equals("java.util.Arrays"), "imports " + imports.group(1));
        }
    }

    /** The room is one for all calls of a run: only fields and the one constructor make objects. */
    private static void objectsAreMadeOnce(String code) {
        int inCalls = 0;
        for (String line : code.split("\n")) {
            if (line.contains("new ") && !line.trim().startsWith("private final")
                    && !line.trim().startsWith("final ")) {
                inCalls++;
            }
        }
        check(inCalls == 1, inCalls + " lines outside fields make objects, 1 (the constructor's) is due");
    }
}
