import java.io.IOException;
import java.lang.reflect.Constructor;
import java.lang.reflect.Field;
import java.lang.reflect.Method;
import java.lang.reflect.Modifier;
import java.nio.file.Files;
import java.nio.file.Path;
import java.util.Random;
import java.util.Set;
import java.util.TreeSet;

/** The face of the class, calls with any arguments, and what LANGUAGE.md leaves out. Run from the project's root. */
public final class FaceTest {
    private static final Set<String> FACE = Set.of(
            "boolean begin(int)", "boolean make(int, int, boolean)", "boolean remove(int, int)",
            "boolean copy(int, int, int, int)", "boolean write(int, int, long, int)", "int commit(int)",
            "boolean abort(int)", "int youngest()", "int kind(int, int)", "long text(int, int)",
            "int length(int, int)", "int line(int, int)", "int count(int, int)", "int created(int, int)",
            "int locate(int, int, int)", "int representation(int, int)", "int representations()",
            "int stored(int, int)");
    private static final String[] LEFT_OUT = {"->", "::", "synchronized", "assert ", "finally", "throw ",
        "try ", "catch", "System.", "Thread", "hashCode", "toString", "package ", "static {", "var "};

    private static int wrong = 0;

    private static void check(String what, boolean holds) {
        if (!holds) {
            wrong++;
            System.out.println(what);
        }
    }

    private static String signature(Method method) {
        StringBuilder text = new StringBuilder();
        text.append(method.getReturnType().getName()).append(' ').append(method.getName()).append('(');
        String between = "";
        for (Class<?> type : method.getParameterTypes()) {
            text.append(between).append(type.getName());
            between = ", ";
        }
        return text.append(')').toString();
    }

    private static void face() {
        Class<?> type = TreeRevisions.class;
        check("the class is not public and final",
                Modifier.isPublic(type.getModifiers()) && Modifier.isFinal(type.getModifiers()));
        Set<String> found = new TreeSet<>();
        Set<String> names = new TreeSet<>();
        for (Method method : type.getDeclaredMethods()) {
            if (!Modifier.isPrivate(method.getModifiers())) {
                found.add(signature(method));
                names.add(method.getName());
                check(method + " is not public alone", method.getModifiers() == Modifier.PUBLIC);
            }
        }
        check("the methods are " + found, found.equals(FACE));
        for (Method method : type.getDeclaredMethods()) {
            check(method + " bears a public name",
                    !Modifier.isPrivate(method.getModifiers()) || !names.contains(method.getName()));
        }
        for (Field field : type.getDeclaredFields()) {
            boolean constant = field.getName().equals("NONE");
            check(field + " is visible", Modifier.isPrivate(field.getModifiers()) || constant);
            check(field + " is static and not final",
                    !Modifier.isStatic(field.getModifiers()) || Modifier.isFinal(field.getModifiers()));
        }
        Constructor<?>[] constructors = type.getDeclaredConstructors();
        check("there is not one public constructor without parameters", constructors.length == 1
                && constructors[0].getParameterCount() == 0 && Modifier.isPublic(constructors[0].getModifiers()));
        for (Class<?> inside : type.getDeclaredClasses()) {
            check(inside + " is not private and static",
                    Modifier.isPrivate(inside.getModifiers()) && Modifier.isStatic(inside.getModifiers()));
        }
        check("some twelve classes at most", type.getDeclaredClasses().length < 12);
    }

    private static int any(Random random) {
        int[] edges = {Integer.MIN_VALUE, Integer.MIN_VALUE + 1, -126, -125, -4, -3, -2, -1, 0, 1, 2, 3, 4, 12, 13,
            15, 16, 17, 31, 124, 125, 126, 156, Integer.MAX_VALUE - 1, Integer.MAX_VALUE};
        return random.nextInt(3) == 0 ? edges[random.nextInt(edges.length)] : random.nextInt(4);
    }

    private static void callAny(TreeRevisions x, Random random) {
        int a = any(random);
        int b = any(random);
        int c = any(random);
        int d = any(random);
        switch (random.nextInt(18)) {
            case 0: x.begin(a); break;
            case 1: x.make(a, b, c > 1); break;
            case 2: x.remove(a, b); break;
            case 3: x.copy(a, b, c, d); break;
            case 4: x.write(a, b, random.nextLong(), c); break;
            case 5: x.commit(a); break;
            case 6: x.abort(a); break;
            case 7: x.youngest(); break;
            case 8: x.kind(a, b); break;
            case 9: x.text(a, b); break;
            case 10: x.length(a, b); break;
            case 11: x.line(a, b); break;
            case 12: x.count(a, b); break;
            case 13: x.created(a, b); break;
            case 14: x.locate(a, b, c); break;
            case 15: x.representation(a, b); break;
            case 16: x.representations(); break;
            default: x.stored(a, b);
        }
    }

    /** Also far beyond the 512th call, where answers are free but still nothing may be thrown. */
    private static void nothingIsThrown() {
        for (int run = 0; run < 200; run++) {
            Random random = new Random(run);
            TreeRevisions x = new TreeRevisions();
            try {
                for (int call = 0; call < 3000; call++) {
                    callAny(x, random);
                }
            } catch (RuntimeException thrown) {
                check("run " + run + " threw " + thrown, false);
            }
        }
    }

    private static void language() throws IOException {
        String source = Files.readString(Path.of("src/main/java/TreeRevisions.java"));
        String code = source.replaceAll("(?s)/\\*.*?\\*/", "").replaceAll("//.*", "");
        for (String word : LEFT_OUT) {
            check("the program has " + word, !code.contains(word));
        }
        for (String row : code.split("\n")) {
            check("not to be imported: " + row,
                    !row.startsWith("import") || row.equals("import java.util.ArrayList;"));
        }
    }

    public static void main(String[] args) throws IOException {
        face();
        nothingIsThrown();
        language();
        System.out.println(wrong == 0 ? "the face is as due" : wrong + " faults");
        if (wrong != 0) {
            System.exit(1);
        }
    }
}
