import java.io.IOException;
import java.lang.reflect.Constructor;
import java.lang.reflect.Field;
import java.lang.reflect.Method;
import java.lang.reflect.Modifier;
import java.nio.file.Files;
import java.nio.file.Path;
import java.util.ArrayList;
import java.util.Arrays;
import java.util.List;
import java.util.TreeSet;

/** The public face, as the document writes it, and what of LANGUAGE.md a reader of lines can see. */
public final class FaceTest {
    private static final String[] FACE = {
        "int addWheel(int,int) IllegalArgumentException,IllegalStateException",
        "int wheels()",
        "int moved(int) IndexOutOfBoundsException",
        "int wholeTurns(int) IndexOutOfBoundsException",
        "double beatsForTurn(int) IndexOutOfBoundsException",
        "int movedAhead(int,int) IndexOutOfBoundsException,IllegalArgumentException",
        "int movedByBeats(int,int) IndexOutOfBoundsException,IllegalArgumentException",
        "int setBeat(int,int) IllegalArgumentException",
        "int pass(int) IllegalArgumentException",
        "long beats()",
        "int shown()",
        "int hour()",
        "int minute()",
        "int owe(int) IllegalArgumentException",
        "int setBound(int) IllegalArgumentException",
        "int setDate(int,int,int) IllegalArgumentException",
        "int year()",
        "int month()",
        "int day()",
        "int weekday()",
        "boolean isLeap(int) IllegalArgumentException",
        "long numberOf(int,int,int) IllegalArgumentException",
        "long numberByCounting(int,int,int) IllegalArgumentException",
        "int setSilence(int,int) IllegalArgumentException",
        "boolean setQuarters(boolean)",
        "int addDrum() IllegalStateException",
        "boolean setPin(int,int,int,boolean) IndexOutOfBoundsException,IllegalArgumentException",
        "int pins(int) IndexOutOfBoundsException",
        "int bellAt(int,int) IndexOutOfBoundsException,NoSuchElementException",
        "int setTune(int,int) IllegalArgumentException,IndexOutOfBoundsException",
        "int strokes(int) IndexOutOfBoundsException",
        "int strikes()",
        "int markAt(int) NoSuchElementException",
        "int strokesAt(int) NoSuchElementException",
        "int strokesAhead(int) IllegalArgumentException",
        "int strokesByBeats(int) IllegalArgumentException",
        "float struckShare() ArithmeticException",
        "boolean isOnce()",
    };
    // What LANGUAGE.md rules out and a line shows by itself; what it allows in one place only is left to the reader.
    private static final List<String> BANNED = List.of("::", "finally", "synchronized", "assert ", "native ", "Exact(",
            "System.out", "System.err", "System.in", "System.nano", "System.current", "System.get", "System.exit",
            "Float.", "Double.", "Objects.", "Thread", "Random", "random(", "hashCode", "getMessage", "static {",
            "public static", "protected ", "package ");
    private static final List<String> IMPORTS = List.of("import java.util.*;", "import java.util.ArrayList;",
            "import java.util.Arrays;", "import java.util.Iterator;", "import java.util.List;",
            "import java.util.NoSuchElementException;");

    public static void main(String[] args) throws IOException {
        face();
        faceOfDocument(Files.readAllLines(Path.of("../shared/DOC.md")));
        membersAreHidden(MinsterClock.class);
        noNameTwice();
        classesInside();
        lines(Files.readAllLines(Path.of("src/main/java/MinsterClock.java")));
        Check.end("FaceTest");
    }

    private static String told(Method method) {
        StringBuilder text = new StringBuilder(method.getReturnType().getSimpleName() + " " + method.getName() + "(");
        text.append(String.join(",", names(method.getParameterTypes()))).append(")");
        if (method.getExceptionTypes().length > 0) {
            text.append(" ").append(String.join(",", names(method.getExceptionTypes())));
        }
        return text.toString();
    }

    private static List<String> names(Class<?>[] types) {
        return Arrays.stream(types).map(Class::getSimpleName).toList();
    }

    private static void face() {
        TreeSet<String> got = new TreeSet<>();
        for (Method method : MinsterClock.class.getDeclaredMethods()) {
            if (Modifier.isPublic(method.getModifiers())) {
                got.add(told(method));
            }
        }
        Check.same("the face", got, new TreeSet<>(Arrays.asList(FACE)));
        Check.same("the class", MinsterClock.class.getModifiers(), Modifier.PUBLIC | Modifier.FINAL);
        Constructor<?>[] constructors = MinsterClock.class.getDeclaredConstructors();
        Check.same("one constructor", constructors.length, 1);
        Check.same("it is public", constructors[0].getModifiers(), Modifier.PUBLIC);
        Check.same("it takes nothing", constructors[0].getParameterCount(), 0);
    }

    /** The document tells each call twice, in its face and above its promise, and both in the order of the promises. */
    private static void faceOfDocument(List<String> document) {
        List<String> listed = new ArrayList<>();
        List<String> promised = new ArrayList<>();
        for (String line : document) {
            if (line.startsWith("    public ") && line.endsWith(";")) {
                listed.add(inShort(line.substring(11, line.length() - 1)));
            }
            if (line.startsWith("`") && line.contains("`: ")) {
                promised.add(inShort(line.substring(1, line.indexOf("`: "))));
            }
        }
        List<String> due = new ArrayList<>(Arrays.asList(FACE));
        due.add(0, "MinsterClock()");
        Check.same("the face in the document", listed, due);
        Check.same("the promises in the document", promised, due);
    }

    private static String inShort(String call) {
        return call.replaceAll("(int|boolean) \\w+(?=[,)])", "$1").replace(" throws ", " ").replace(", ", ",");
    }

    private static void membersAreHidden(Class<?> type) {
        for (Field field : type.getDeclaredFields()) {
            Check.same(field + " is private", Modifier.isPrivate(field.getModifiers()), true);
        }
        for (Method method : type.getDeclaredMethods()) {
            int modifiers = method.getModifiers();
            Check.same(method + " is public or private", Modifier.isPublic(modifiers) || Modifier.isPrivate(modifiers),
                    true);
            Check.same(method + " has few parameters", method.getParameterCount() <= 7, true);
        }
    }

    private static void noNameTwice() {
        TreeSet<String> open = new TreeSet<>();
        for (String call : FACE) {
            open.add(call.substring(call.indexOf(' ') + 1, call.indexOf('(')));
        }
        Check.same("38 names", open.size(), 38);
        for (Method method : MinsterClock.class.getDeclaredMethods()) {
            if (Modifier.isPrivate(method.getModifiers())) {
                Check.same(method.getName() + " is no name of the face", open.contains(method.getName()), false);
            }
        }
    }

    private static void classesInside() {
        Class<?>[] inside = MinsterClock.class.getDeclaredClasses();
        Check.same("at most 12 classes", inside.length + 1 <= 12, true);
        for (Class<?> type : inside) {
            Check.same(type + " is not public", Modifier.isPublic(type.getModifiers()), false);
            int fields = 0;
            for (Field field : type.getDeclaredFields()) {
                boolean isStatic = Modifier.isStatic(field.getModifiers());
                fields += isStatic ? 0 : 1;
                Check.same(field + " is final if static", !isStatic || Modifier.isFinal(field.getModifiers()), true);
            }
            Check.same(type + " has few fields", fields <= 20, true);
        }
    }

    private static void lines(List<String> lines) {
        for (int i = 0; i < lines.size(); i++) {
            String line = lines.get(i);
            String code = line.strip().startsWith("*") || line.strip().startsWith("/") ? "" : line;
            for (String banned : BANNED) {
                Check.same("line " + (i + 1) + " holds " + banned, code.contains(banned), false);
            }
            boolean isLambda = code.contains("->") && !code.contains("case ") && !code.contains("default ");
            Check.same("line " + (i + 1) + " holds a lambda", isLambda, false);
            Check.same("line " + (i + 1) + " is plain", code.chars().allMatch(c -> c == 9 || c >= 32 && c < 127), true);
            if (code.startsWith("import ")) {
                Check.same(code, IMPORTS.contains(code), true);
            }
        }
    }
}
