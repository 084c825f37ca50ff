import java.lang.management.ManagementFactory;
import java.lang.reflect.Constructor;
import java.lang.reflect.Field;
import java.lang.reflect.Method;
import java.lang.reflect.Modifier;
import java.io.IOException;
import java.nio.file.Files;
import java.nio.file.Path;
import java.util.Arrays;
import java.util.HashSet;
import java.util.Set;
import java.util.TreeSet;
import java.util.regex.Matcher;
import java.util.regex.Pattern;

/** The public face, and those rules of LANGUAGE.md that can be looked up; takes the program's file. */
public final class FaceTest {
    private static final String[] METHODS = {"account(int)", "begin(int,int)", "bestSpot(int,int,int)",
        "clearText()", "count(int)", "fault()", "firstThrough(int,int)", "gun(int,int)",
        "heat(int,int)", "heatsByTrend(int)", "heatsLeft(int,int)", "neighbour(int,int)", "peaks(int)",
        "rate(int,int)", "reason()", "reline(int)", "run()", "scan()", "scanned(int,int,int)",
        "set(int,int)", "spot(int,int)", "trend(int)", "type(int)", "undo()", "wear(int,int,int)"};

    private FaceTest() {
    }

    public static void main(String[] args) throws IOException {
        constants();
        members();
        namesInside();
        if (args.length > 0) {
            words(Files.readString(Path.of(args[0])));
        }
        room();
        Due.end("FaceTest");
    }

    private static void constants() {
        Due.same("INVALID_ARGUMENT", LiningLog.INVALID_ARGUMENT, -1000001);
        Due.same("NOT_POSSIBLE", LiningLog.NOT_POSSIBLE, -1000002);
        Due.same("LIMIT_REACHED", LiningLog.LIMIT_REACHED, -1000003);
        Due.same("NOT_FOUND", LiningLog.NOT_FOUND, -1000004);
    }

    private static void yes(String what, boolean holds) {
        Due.same(what, holds ? 1 : 0, 1);
    }

    private static void members() {
        Class<?> face = LiningLog.class;
        yes("public and final", Modifier.isPublic(face.getModifiers()) && Modifier.isFinal(face.getModifiers()));
        Set<String> methods = new TreeSet<>();
        for (Method method : face.getDeclaredMethods()) {
            if (!Modifier.isPrivate(method.getModifiers())) {
                methods.add(signature(method));
                yes(method + " is public and answers an int", Modifier.isPublic(method.getModifiers())
                        && !Modifier.isStatic(method.getModifiers()) && method.getReturnType() == int.class);
            }
        }
        yes("methods " + methods, methods.equals(new TreeSet<>(Arrays.asList(METHODS))));
        Set<String> fields = new TreeSet<>();
        for (Field field : face.getDeclaredFields()) {
            if (!Modifier.isPrivate(field.getModifiers())) {
                fields.add(Modifier.toString(field.getModifiers()) + " " + field.getType() + " " + field.getName());
            }
        }
        yes("four constants: " + fields, fields.size() == 4);
        for (String field : fields) {
            yes(field, field.startsWith("public static final int "));
        }
        Constructor<?>[] made = face.getDeclaredConstructors();
        yes("one constructor", made.length == 1 && made[0].getParameterCount() == 0
                && Modifier.isPublic(made[0].getModifiers()));
    }

    private static String signature(Method method) {
        StringBuilder signature = new StringBuilder(method.getName()).append('(');
        for (Class<?> type : method.getParameterTypes()) {
            signature.append(signature.charAt(signature.length() - 1) == '(' ? "" : ",").append(type.getName());
        }
        return signature.append(')').toString();
    }

    private static void namesInside() {
        Set<String> taken = new HashSet<>();
        for (String method : METHODS) {
            taken.add(method.substring(0, method.indexOf('(')));
        }
        for (Method method : LiningLog.class.getDeclaredMethods()) {
            if (Modifier.isPrivate(method.getModifiers())) {
                yes("private " + method.getName(), !taken.contains(method.getName()));
            }
        }
        for (Class<?> inside : LiningLog.class.getDeclaredClasses()) {
            yes(inside + " is static and not public", Modifier.isStatic(inside.getModifiers())
                    && !Modifier.isPublic(inside.getModifiers()) && !Modifier.isProtected(inside.getModifiers()));
            for (Method method : inside.getDeclaredMethods()) {
                yes("inside: " + method.getName(), !taken.contains(method.getName()));
            }
            for (Field field : inside.getDeclaredFields()) {
                yes("no static state: " + field, !Modifier.isStatic(field.getModifiers()));
            }
        }
        for (Field field : LiningLog.class.getDeclaredFields()) {
            yes("static is final: " + field, !Modifier.isStatic(field.getModifiers())
                    || Modifier.isFinal(field.getModifiers()));
        }
    }

    private static void words(String source) {
        String code = source.replaceAll("(?s)/\\*.*?\\*/", " ").replaceAll("//[^\n]*", " ");
        String[] banned = {"throw", "throws", "try", "catch", "synchronized", "assert", "import", "package",
            "instanceof", "Object", "Exact", "volatile", "native", "Thread", "Random", "currentTimeMillis",
            "nanoTime", "equals", "hashCode", "toString", "record\\s+\\w+\\s*\\("};
        for (String word : banned) {
            yes("no " + word, !Pattern.compile("\\b" + word + "\\b").matcher(code).find());
        }
        yes("no lambda, no method reference", !code.contains("->") && !code.contains("::"));
        Matcher library = Pattern.compile("\\b(System|Math|Arrays|Integer|Long|String|List)\\.(\\w+)").matcher(code);
        Set<String> allowed = Set.of("System.arraycopy", "Math.min", "Math.max", "Math.floorDiv", "Math.floorMod");
        while (library.find()) {
            yes(library.group(), allowed.contains(library.group()));
        }
        for (int at = 0; at < source.length(); at++) {
            if (source.charAt(at) > 127) {
                Due.same("character " + at, source.charAt(at), 0);
            }
        }
    }

    /** Rows are made by the constructor; the calls make nothing, and so no run outgrows its room. */
    private static void room() {
        com.sun.management.ThreadMXBean threads =
                (com.sun.management.ThreadMXBean) ManagementFactory.getThreadMXBean();
        if (!threads.isThreadAllocatedMemorySupported()) {
            return;
        }
        LiningLog log = new LiningLog();
        everyCall(log);
        long before = threads.getCurrentThreadAllocatedBytes();
        for (int round = 0; round < 12; round++) {
            everyCall(log);
        }
        long made = threads.getCurrentThreadAllocatedBytes() - before;
        // A single object a call would make some 5,000 bytes.
        yes("12 rounds of every call made " + made + " bytes", made < 2000);
    }

    private static void everyCall(LiningLog log) {
        log.begin(6, 10);
        log.rate(0, 20);
        log.set(1, 5);
        log.gun(3, 100);
        log.heat(1700, 30);
        log.scan();
        log.heat(1700, 30);
        log.scan();
        log.count(10);
        log.spot(3, 4);
        log.neighbour(3, 1);
        log.account(4);
        log.scanned(0, 3, 3);
        log.peaks(0);
        log.trend(3);
        log.heatsByTrend(3);
        log.heatsLeft(1700, 30);
        log.firstThrough(1700, 30);
        log.bestSpot(50, 1700, 30);
        log.wear(3, 1700, 30);
        log.clearText();
        for (int round = 0; round < 4; round++) {
            log.type('g');
            log.type('7');
            log.type(',');
            log.type('9');
            log.type(';');
            log.type('s');
            log.type(';');
        }
        log.fault();
        log.run();
        log.reason();
        log.reline(1);
        log.reline(-1);
        log.undo();
    }
}
