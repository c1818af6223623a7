import java.io.IOException;
import java.lang.reflect.Constructor;
import java.lang.reflect.Field;
import java.lang.reflect.Method;
import java.lang.reflect.Modifier;
import java.nio.file.Files;
import java.nio.file.Path;
import java.util.Arrays;
import java.util.Set;
import java.util.TreeSet;
import java.util.regex.Matcher;
import java.util.regex.Pattern;

/** The public face of the document, and those rules of LANGUAGE.md that can be read off the file. */
public final class FaceTest {
    private static final Path SOURCE = Path.of("src/main/java/SharedPage.java");
    private static final String[] FACE = {
        "int insert(int, int, int, int)",
        "int erase(int, int, int)",
        "int tell(int, int, int)",
        "int share(int, int, int, boolean)",
        "int look(int, int, int)",
        "int message(int, int, int)",
        "int state(int, int, int)",
        "int character(int, int, int, int)",
        "int write(int, int)",
        "int out(int)",
        "boolean same(int, int, int)",
        "boolean shuffle(int, int, int)",
        "long orders(int, int)",
        "long number(int, int)"};
    private static final String[] BARRED = {"\\bthrows?\\b", "\\btry\\b", "\\bcatch\\b", "\\bsynchronized\\b",
        "\\bassert\\b", "\\bpackage\\b", "\\bhashCode\\b", "\\w+Exact\\b", "\\b[Rr]andom\\b", "\\bThread\\b",
        "\\bSystem\\.(?!arraycopy\\b)", "::", "->", "\\bimport\\b", "\\bequals\\b", "\\btoString\\b",
        "\\bObject\\b", "\\bdouble\\b", "\\bfloat\\b", "\"[^\"]*\" \\+", "\\+ \"", "\\bwhile \\(true\\)",
        "for \\(;;\\)"};
    /** A method's or a constructor's first line; the latter has no type. */
    private static final Pattern HEAD =
        Pattern.compile("^ {4,8}(?:(?:public|private|static|final) )*(?:([\\w\\[\\]]+) )?\\w+\\(.*\\) \\{$");
    private static final int MOST_LINES = 60;
    private static int wrong = 0;

    public static void main(String[] args) throws IOException {
        methods();
        others();
        nested();
        String code = withoutComments(Files.readString(SOURCE));
        words(code);
        eachMethod(code.split("\n"));
        drawOfShuffle(code.replaceAll("\\s+", " "));
        System.out.println(wrong == 0 ? "the face and the file are as due" : wrong + " faults");
        if (wrong != 0) {
            System.exit(1);
        }
    }

    private static void fault(boolean is, String what) {
        if (is) {
            wrong++;
            System.out.println(what);
        }
    }

    private static String signature(Method method) {
        StringBuilder types = new StringBuilder();
        for (Class<?> type : method.getParameterTypes()) {
            types.append(types.length() == 0 ? "" : ", ").append(type.getSimpleName());
        }
        return method.getReturnType().getSimpleName() + " " + method.getName() + "(" + types + ")";
    }

    private static void methods() {
        Set<String> due = new TreeSet<>(Arrays.asList(FACE));
        Set<String> open = new TreeSet<>();
        Set<String> publicNames = new TreeSet<>();
        for (Method method : SharedPage.class.getDeclaredMethods()) {
            if (Modifier.isPrivate(method.getModifiers())) {
                continue;
            }
            open.add(signature(method));
            publicNames.add(method.getName());
            fault(!Modifier.isPublic(method.getModifiers()), "not public: " + method);
            fault(Modifier.isStatic(method.getModifiers()), "static: " + method);
            fault(method.getExceptionTypes().length != 0, "throws: " + method);
        }
        fault(!due.equals(open), "the methods are " + open + ", due are " + due);
        for (Method method : SharedPage.class.getDeclaredMethods()) {
            fault(Modifier.isPrivate(method.getModifiers()) && publicNames.contains(method.getName()),
                "a private method bears a public name: " + method);
        }
    }

    private static void others() {
        int modifiers = SharedPage.class.getModifiers();
        fault(!Modifier.isPublic(modifiers) || !Modifier.isFinal(modifiers), "the class is not public and final");
        Constructor<?>[] constructors = SharedPage.class.getDeclaredConstructors();
        fault(constructors.length != 1 || !Modifier.isPublic(constructors[0].getModifiers())
            || constructors[0].getParameterCount() != 0, "there is another constructor");
        for (Field field : SharedPage.class.getDeclaredFields()) {
            boolean isPrivate = Modifier.isPrivate(field.getModifiers());
            boolean isConstant = Modifier.isStatic(field.getModifiers()) && Modifier.isFinal(field.getModifiers());
            fault(!isPrivate && !field.getName().equals("NONE"), "not private: " + field);
            fault(Modifier.isStatic(field.getModifiers()) && !isConstant, "static state: " + field);
        }
        fault(SharedPage.NONE != -1, "NONE is not -1");
    }

    private static void nested() {
        Class<?>[] classes = SharedPage.class.getDeclaredClasses();
        fault(classes.length > 12, "too many classes");
        for (Class<?> inside : classes) {
            fault(!Modifier.isStatic(inside.getModifiers()), "not static: " + inside);
            fault(Modifier.isPublic(inside.getModifiers()), "public: " + inside);
            int fields = 0;
            for (Field field : inside.getDeclaredFields()) {
                boolean isStatic = Modifier.isStatic(field.getModifiers());
                fields += isStatic ? 0 : 1;
                fault(isStatic && !Modifier.isFinal(field.getModifiers()), "static state: " + field);
            }
            fault(fields > 20, "too many fields: " + inside);
            for (Method method : inside.getDeclaredMethods()) {
                fault(method.getParameterCount() > 7, "too many parameters: " + method);
            }
        }
    }

    private static String withoutComments(String source) {
        return source.replaceAll("(?s)/\\*.*?\\*/", "").replaceAll("//[^\n]*", "");
    }

    private static void words(String code) {
        for (String barred : BARRED) {
            fault(Pattern.compile(barred).matcher(code).find(), "the file has '" + barred + "'");
        }
    }

    /** Every order comes to the same SEQUENCE, so no answer shows Promise 13's draw: it is read here. */
    private static void drawOfShuffle(String code) {
        fault(!Pattern.compile("\\bint (\\w+) = seed;.*\\b\\1 = \\1 \\* 1103515245 \\+ 12345;").matcher(code).find(),
            "the seed does not become seed * 1103515245 + 12345");
        fault(!Pattern.compile("\\(\\w+ >>> 16\\) % \\w+").matcher(code).find(),
            "the place is not (seed >>> 16) modulo how many are left");
    }

    /** Methods are short; and only constructors make objects, so that no run of calls can fill the room. */
    private static void eachMethod(String[] lines) {
        boolean inConstructor = false;
        int began = 0;
        int methods = 0;
        for (int at = 0; at < lines.length; at++) {
            Matcher head = HEAD.matcher(lines[at]);
            if (head.matches()) {
                inConstructor = head.group(1) == null;
                began = at;
                methods++;
            }
            fault(lines[at].matches(" {4,8}\\}") && at - began >= MOST_LINES && isEndOf(lines, began, at),
                "a long method: " + lines[began].trim());
            fault(lines[at].contains("new ") && !inConstructor, "made outside a constructor: " + lines[at].trim());
        }
        fault(methods < FACE.length, "the methods were not found");
    }

    /** Whether a closing brace stands as far in as the line that began the method. */
    private static boolean isEndOf(String[] lines, int began, int at) {
        return lines[began].indexOf(lines[began].trim()) == lines[at].indexOf('}');
    }
}
