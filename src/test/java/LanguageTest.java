import java.io.IOException;
import java.lang.reflect.Constructor;
import java.lang.reflect.Field;
import java.lang.reflect.Method;
import java.lang.reflect.Modifier;
import java.nio.file.Files;
import java.nio.file.Path;
import java.util.ArrayList;
import java.util.List;
import java.util.Set;
import java.util.TreeSet;
import java.util.regex.Matcher;
import java.util.regex.Pattern;

/** The rules of LANGUAGE.md that can be seen from the source, from the class's members, and from what a run makes. */
public final class LanguageTest {
    private static final Checks checks = new Checks();
    private static final String FACE = "set(int,int) film(int,int,int) way(int,int,int) show(int,int,int,int) drop(int)"
        + " tear(int,int,int) glue(int,int) ofFilm(int,int) ofShow(int,int) shown(int,int) where(int,int,int) count(int)"
        + " ofHouse(int,int) advert(int) firstFree(int,int,int) slower(int) put(long) wipe() fault() carryOut() undo()"
        + " save(int) restore(int)";
    private static final String CONSTANTS = "NO_SUCH=-1 BAD_VALUE=-2 BAD_TEXT=-3 TOO_MANY=-4 NOT_POSSIBLE=-5 NONE=-6"
        + " LAST=0 WAIT=1 MEND=2 ADVERTS=3 PRICE=4";

    public static void main(String[] args) throws IOException, IllegalAccessException {
        String source = Files.readString(Path.of(args[0], "src/main/java/CircuitReels.java"));
        checkMethods();
        checkFields();
        checkClassesInside();
        checkWords(source);
        checkLengths(source);
        checkWhatCallsMake();
        checks.end();
    }

    private static void checkMethods() {
        Set<String> visible = new TreeSet<>();
        Set<String> visibleNames = new TreeSet<>();
        for (Method method : CircuitReels.class.getDeclaredMethods()) {
            if (!Modifier.isPrivate(method.getModifiers())) {
                visible.add(method.toString().replaceAll(".*CircuitReels\\.", ""));
                visibleNames.add(method.getName());
                checks.holds(method + " is public and answers an int",
                    method.getModifiers() == Modifier.PUBLIC && method.getReturnType() == int.class);
            }
        }
        checks.holds("the face's methods: " + visible, visible.equals(new TreeSet<>(List.of(FACE.split(" ")))));
        List<Class<?>> all = new ArrayList<>(List.of(CircuitReels.class.getDeclaredClasses()));
        all.add(CircuitReels.class);
        for (Class<?> one : all) {
            for (Method method : one.getDeclaredMethods()) {
                checks.holds(method + " has seven parameters at most", method.getParameterCount() <= 7);
                checks.holds(method + " has a name of its own",
                    !visibleNames.contains(method.getName()) || Modifier.isPublic(method.getModifiers()));
            }
        }
        Constructor<?>[] constructors = CircuitReels.class.getDeclaredConstructors();
        checks.holds("one public constructor",
            constructors.length == 1 && Modifier.isPublic(constructors[0].getModifiers()));
    }

    private static void checkFields() throws IllegalAccessException {
        Set<String> visible = new TreeSet<>();
        for (Field field : CircuitReels.class.getDeclaredFields()) {
            if (!Modifier.isPrivate(field.getModifiers())) {
                visible.add(field.getName() + "=" + field.get(null));
            }
        }
        checks.holds("the face's constants: " + visible, visible.equals(new TreeSet<>(List.of(CONSTANTS.split(" ")))));
    }

    private static void checkClassesInside() {
        checks.holds("the class is public and final", CircuitReels.class.getModifiers() == (Modifier.PUBLIC | Modifier.FINAL));
        Class<?>[] inside = CircuitReels.class.getDeclaredClasses();
        checks.holds("twelve classes at most", inside.length < 12);
        for (Class<?> one : inside) {
            checks.holds(one + " is static and not public",
                Modifier.isStatic(one.getModifiers()) && !Modifier.isPublic(one.getModifiers()));
            int own = 0;
            for (Field field : one.getDeclaredFields()) {
                boolean isStatic = Modifier.isStatic(field.getModifiers());
                checks.holds(field + " is final if it is static", !isStatic || Modifier.isFinal(field.getModifiers()));
                own += isStatic ? 0 : 1;
            }
            checks.holds(one + " has twenty fields at most", own <= 20);
        }
    }

    private static void checkWords(String source) {
        String code = source.replaceAll("/\\*(?s:.)*?\\*/|//.*", "").replaceAll("\"[^\"\n]*\"", "\"\"");
        for (String banned : List.of("throw", "try", "catch", "synchronized", "assert", "instanceof", "enum", "package",
                "Exact", "hashCode", "System\\.(?!arraycopy)", "Math\\.(?!max|min)", "->", "::", "\"\"\\s*\\+", "\\+\\s*\"\"")) {
            checks.holds("no " + banned, !Pattern.compile(banned.matches("\\w+") ? "\\b" + banned + "\\b" : banned).matcher(code).find());
        }
        Matcher imported = Pattern.compile("import .*").matcher(code);
        while (imported.find()) {
            checks.holds(imported.group(), imported.group().equals("import java.util.Arrays;"));
        }
    }

    /** Methods of the class and of those inside it begin and end with their own indentation. */
    private static void checkLengths(String source) {
        String[] lines = source.split("\n");
        for (int first = 0; first < lines.length; first++) {
            checks.holds("line " + first + " is short", lines[first].length() <= 125);
            Matcher head = Pattern.compile("( {4}| {8})\\w.*\\) \\{").matcher(lines[first]);
            if (head.matches()) {
                int last = first;
                while (!lines[last].equals(head.group(1) + "}")) {
                    last++;
                }
                checks.holds("short: " + lines[first].trim(), last - first < 40);
            }
        }
    }

    /** All that the class needs is made with the object, so that 512 calls make nothing. */
    private static void checkWhatCallsMake() {
        for (int warm = 0; warm < 3; warm++) {
            callAll(new CircuitReels());
        }
        CircuitReels circuit = new CircuitReels();
        com.sun.management.ThreadMXBean meter =
            (com.sun.management.ThreadMXBean) java.lang.management.ManagementFactory.getThreadMXBean();
        meter.getCurrentThreadAllocatedBytes();
        long before = meter.getCurrentThreadAllocatedBytes();
        int sum = callAll(circuit);
        long made = meter.getCurrentThreadAllocatedBytes() - before;
        checks.holds("calls make no objects, but made " + made + " bytes " + sum, made < 10_000);
    }

    private static int callAll(CircuitReels x) {
        int sum = 0;
        for (int round = 0; round < 20; round++) {
            sum += x.set(0, 20) + x.film(6, 1, 40) + x.way(0, 1, 30) + x.show(0, round % 4, 60 * round, 5);
            sum += x.tear(0, 2, 50) + x.glue(0, 2) + x.drop(round == 7 ? 0 : 99) + x.ofFilm(0, 5) + x.ofShow(0, 10);
            sum += x.shown(0, 3) + x.where(0, 3, 400) + x.count(7) + x.ofHouse(1, 1) + x.advert(3);
            sum += x.firstFree(0, 3, 0) + x.slower(40) + x.put(0x2d30) + x.fault() + x.carryOut() + x.wipe();
            sum += x.undo() + x.save(1) + x.restore(1);
        }
        return sum;
    }
}
