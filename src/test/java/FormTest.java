import java.io.IOException;
import java.lang.management.ManagementFactory;
import java.lang.reflect.Constructor;
import java.lang.reflect.Field;
import java.lang.reflect.Method;
import java.lang.reflect.Modifier;
import java.nio.file.Files;
import java.nio.file.Path;
import java.util.ArrayList;
import java.util.Arrays;
import java.util.List;
import java.util.Random;
import java.util.Set;
import java.util.TreeSet;
import java.util.regex.Matcher;
import java.util.regex.Pattern;

/** The form that LANGUAGE.md asks for, as far as it can be seen: the face, the words, what calls make, that none throws. */
public final class FormTest {
    private static final Set<String> FACE = new TreeSet<>(List.of(
            "int feed(int,int,int,int,int)", "int end(int)", "int text(int,int)", "int fault(int)", "int code(int,int)",
            "int choice(int,int)", "int loss(int,int)", "int run(int,int,int)", "int step(int,int,int,boolean)",
            "int open(int,int,int,int)", "int apart(int,int,int)", "int head(int,int)", "int block(int,int)",
            "int packet(int,int,int,int)", "int sent(int,int,int)", "int rebuilt(int,int,int,int)",
            "int missed(int,int,int,int)", "int visits(int,int,int)", "int hot(int,int,int)", "int dead(int,int)",
            "int fact(int,int,int)", "int fits(int,int,int,int)", "int drawn(int,int,int,int)", "int count(int)",
            "boolean image(int)", "boolean again(int)"));

    private static final String[] FORBIDDEN_WORDS = {"throw", "throws", "try", "catch", "synchronized", "assert",
        "import", "package", "native", "volatile", "transient", "strictfp", "yield", "var", "protected"};

    private FormTest() { }

    public static void main(String[] args) throws ReflectiveOperationException, IOException {
        face();
        faceOfDocument(Path.of(System.getProperty("document", "../shared/DOC.md")));
        classes();
        words(Path.of(System.getProperty("source", "src/main/java/TracePackets.java")));
        neverThrows();
        makesNothing();
        Checks.close("FormTest");
    }

    private static void dueTrue(String what, boolean holds) {
        Checks.due(what, true, holds);
    }

    private static boolean isHidden(int modifiers) {
        return Modifier.isPrivate(modifiers);
    }

    private static String signature(Method method) {
        StringBuilder text = new StringBuilder(method.getReturnType().getName()).append(' ').append(method.getName());
        List<String> types = new ArrayList<>();
        for (Class<?> type : method.getParameterTypes()) {
            types.add(type.getName());
        }
        return text.append('(').append(String.join(",", types)).append(')').toString();
    }

    private static void face() {
        Class<?> face = TracePackets.class;
        dueTrue("public final", face.getModifiers() == (Modifier.PUBLIC | Modifier.FINAL));
        Set<String> shown = new TreeSet<>();
        for (Method method : face.getDeclaredMethods()) {
            if (!isHidden(method.getModifiers()) && !method.isSynthetic()) {
                shown.add(signature(method));
                dueTrue(method + " is public alone", method.getModifiers() == Modifier.PUBLIC);
            }
        }
        dueTrue("the face is " + shown, FACE.equals(shown));
        for (Field field : face.getDeclaredFields()) {
            boolean none = field.getName().equals("NONE");
            dueTrue(field + " is hidden", none ? Modifier.isPublic(field.getModifiers()) : isHidden(field.getModifiers()));
        }
        Constructor<?>[] constructors = face.getDeclaredConstructors();
        dueTrue("one constructor", constructors.length == 1 && constructors[0].getParameterCount() == 0
                && Modifier.isPublic(constructors[0].getModifiers()));
    }

    /** The face that is looked for is that of the document. */
    private static void faceOfDocument(Path document) throws IOException {
        if (!Files.exists(document)) {
            System.out.println("FormTest: " + document + " is not there, its face was not looked at");
            return;
        }
        String text = Files.readString(document);
        String block = text.substring(text.indexOf("public final class TracePackets {"), text.indexOf("## Terms"));
        Set<String> told = new TreeSet<>();
        Matcher method = Pattern.compile("public (int|boolean) (\\w+)\\(([^)]*)\\);").matcher(block);
        while (method.find()) {
            told.add(method.group(1) + " " + method.group(2) + "(" + method.group(3).replaceAll(" \\w+(, )?", ",")
                    .replaceFirst(",$", "") + ")");
        }
        dueTrue("the document's face is " + told, FACE.equals(told));
        dueTrue("the document's constructor", block.contains("public TracePackets();"));
        dueTrue("the document's constant", block.contains("public static final int NONE = -1;"));
        dueTrue("no more than these", Pattern.compile("public ").matcher(block).results().count() == FACE.size() + 3);
    }

    private static void classes() {
        Set<String> names = new TreeSet<>();
        FACE.forEach(each -> names.add(each.replaceAll(".* |\\(.*", "")));
        Class<?>[] inside = TracePackets.class.getDeclaredClasses();
        dueTrue("twelve classes", inside.length + 1 <= 12);
        List<Class<?>> all = new ArrayList<>(Arrays.asList(inside));
        for (Class<?> each : inside) {
            dueTrue(each + " is static", Modifier.isStatic(each.getModifiers()));
            dueTrue(each + " is not public", !Modifier.isPublic(each.getModifiers()));
            for (Method method : each.getDeclaredMethods()) {
                dueTrue(method + " has a name of its own", method.isSynthetic() || !names.contains(method.getName()));
            }
        }
        all.add(TracePackets.class);
        for (Class<?> each : all) {
            int fields = 0;
            for (Field field : each.getDeclaredFields()) {
                boolean still = Modifier.isStatic(field.getModifiers());
                fields += still ? 0 : 1;
                dueTrue(field + " is final", !still || Modifier.isFinal(field.getModifiers()));
            }
            dueTrue(each + " has twenty fields", fields <= 20);
            for (Method method : each.getDeclaredMethods()) {
                dueTrue(method + " has seven parameters", method.getParameterCount() <= 7);
            }
        }
    }

    private static void words(Path path) throws IOException {
        String source = Files.readString(path);
        for (int i = 0; i < source.length(); i++) {
            if (source.charAt(i) > 127) {
                dueTrue("a sign above 127 at " + i, false);
            }
        }
        String bare = source.replaceAll("(?s)/\\*.*?\\*/", "").replaceAll("//[^\n]*", "")
                .replaceAll("\"[^\"\n]*\"", "TEXT").replaceAll("'[^'\n]*'", "SIGN");
        for (String word : FORBIDDEN_WORDS) {
            dueTrue("no word " + word, !Pattern.compile("\\b" + word + "\\b").matcher(bare).find());
        }
        for (String sign : new String[] {"->", "::", "@", "static {", "TEXT +", "+ TEXT", "Exact", "while (true)",
            "for (;;)", "java."}) {
            dueTrue("no " + sign, !bare.contains(sign));
        }
        Matcher library = Pattern.compile("\\b(String|StringBuilder|Integer|Long|Math|System|Arrays|Object|Boolean|Byte|"
                + "Character|Double|Short)\\b[.\\w]*").matcher(bare);
        Set<String> allowed = Set.of("String", "Math.max", "Math.min", "Long.bitCount", "System.arraycopy");
        while (library.find()) {
            dueTrue("of the library: " + library.group(), allowed.contains(library.group()));
        }
        methodLengths(bare);
    }

    private static void methodLengths(String bare) {
        Matcher matcher = Pattern.compile("\\n( {4}| {8})[a-zA-Z][^\\n;=]*\\) \\{\\n").matcher(bare);
        int methods = 0;
        while (matcher.find()) {
            int end = bare.indexOf("\n" + matcher.group(1) + "}\n", matcher.end() - 1);
            long lines = bare.substring(matcher.start() + 1, Math.max(end, matcher.start() + 1)).lines().count() + 1;
            dueTrue("sixty lines at most: " + matcher.group().trim(), end > 0 && lines <= 60);
            methods++;
        }
        dueTrue("methods were seen", methods > 100);
    }

    private static int strange(Random random) {
        int[] numbers = {Integer.MIN_VALUE, Integer.MAX_VALUE, -1, -2, 0, 1, 2, 3, 10, 11, 39, 40, 60, 99, 100, 101, 139,
            140, 200, 255, 256, 300, 339, 340, 400, 600, 601, 999, 1000, 1199, 1200, 1 << 31, 1 << 30, 1 << 16};
        return random.nextInt(6) == 0 ? random.nextInt() : numbers[random.nextInt(numbers.length)];
    }

    private static void neverThrows() throws ReflectiveOperationException {
        Random random = new Random(7);
        String[][] texts = {
            {"", "if 0;stop;bits 1;room 3;rate 9;", "call 0;", "via;ret;call 0;if 2;mode 1;stop;only 1;", "jump 0;sync 2;",
                "if 40;", "call 1;ret;", "z"},
            {"", "y;".repeat(60), "go 0;".repeat(60), "go 1;go 2;y;n;go 39;", "y"},
            {"", "lose 0;", "lose 99;lose 98;lose 2;lose 1;", "lose"},
            {"", "saw 0 0;", "saw 39 99;saw 0 1;saw 0 2;", "saw 1"}};
        List<Method> methods = new ArrayList<>();
        for (Method method : TracePackets.class.getDeclaredMethods()) {
            if (Modifier.isPublic(method.getModifiers())) {
                methods.add(method);
            }
        }
        methods.sort((a, b) -> a.getName().compareTo(b.getName()));
        for (int round = 0; round < 300; round++) {
            TracePackets x = new TracePackets();
            for (int call = 0; call < 512; call++) {
                if (random.nextInt(6) == 0) {
                    int sort = random.nextInt(4);
                    Checks.tellAt(x, sort, random.nextInt(4) - 1, texts[sort][random.nextInt(texts[sort].length)]);
                }
                Method method = methods.get(random.nextInt(methods.size()));
                Object[] given = new Object[method.getParameterCount()];
                for (int i = 0; i < given.length; i++) {
                    boolean small = random.nextInt(3) != 0;
                    given[i] = method.getParameterTypes()[i] == boolean.class ? (Object) random.nextBoolean()
                            : (Object) (small ? random.nextInt(4) - 1 : strange(random));
                }
                method.invoke(x, given);
            }
        }
        dueTrue("no call threw", true);
    }

    /** All calls of a run share one room: the constructor makes what there is, and the calls make nothing. */
    private static void makesNothing() {
        TracePackets x = new TracePackets();
        Checks.tell(x, 0, "if 0;stop;bits 1;");
        Checks.tell(x, 1, "y;".repeat(60));
        Checks.tell(x, 2, "lose 5;lose 7;");
        Checks.tell(x, 3, "saw 1 0;");
        com.sun.management.ThreadMXBean threads = (com.sun.management.ThreadMXBean) ManagementFactory.getThreadMXBean();
        dearCalls(x);
        long before = threads.getCurrentThreadAllocatedBytes();
        for (int i = 0; i < 50; i++) {
            dearCalls(x);
        }
        long made = threads.getCurrentThreadAllocatedBytes() - before;
        dueTrue("calls make nothing, but made " + made + " bytes", made < 20_000);
        long start = threads.getCurrentThreadAllocatedBytes();
        TracePackets[] kept = {new TracePackets()};
        long size = threads.getCurrentThreadAllocatedBytes() - start;
        dueTrue("an object is small, but has " + size + " bytes", kept[0] != null && size < 200_000);
    }

    private static void dearCalls(TracePackets x) {
        for (int what = 0; what < 16; what++) {
            x.sent(0, 0, what);
            x.run(0, 0, what);
            x.rebuilt(0, 0, 0, what);
            x.fits(0, 0, 0, what);
            x.packet(0, 0, what, 0);
            x.drawn(0, what, 60, 0);
        }
        x.missed(0, 0, 0, 0);
        x.hot(0, 0, 39);
        x.dead(0, 0);
        x.open(0, 0, 3, 0);
        x.apart(0, 0, 0);
        x.image(0);
        x.again(0);
        x.feed(0x793b793b, 0x793b793b, 0x793b793b, 0x793b793b, 0x793b793b);
        x.text(1, TracePackets.NONE);
        x.again(0);
    }
}
