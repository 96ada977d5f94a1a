import java.io.IOException;
import java.io.PrintWriter;
import java.io.StringWriter;
import java.lang.reflect.Constructor;
import java.lang.reflect.Field;
import java.lang.reflect.Method;
import java.lang.reflect.Modifier;
import java.nio.charset.StandardCharsets;
import java.nio.file.Files;
import java.nio.file.Path;
import java.util.ArrayList;
import java.util.Arrays;
import java.util.LinkedHashMap;
import java.util.LinkedHashSet;
import java.util.List;
import java.util.Map;
import java.util.Set;
import java.util.TreeSet;
import java.util.regex.Matcher;
import java.util.regex.Pattern;
import java.util.spi.ToolProvider;
import java.util.stream.Collectors;

/**
 * The rules of ../shared/LANGUAGE.md that can be read off the compiled class and its source: the
 * face, what the class calls, how deep calls go, that no call of the face makes anything.
 */
public final class LanguageTest {
    private static final Path SOURCE = Path.of("src/main/java/ShiftRing.java");

    /** The document's face, as reflection writes it. */
    private static final String[] FACE = {
        "int join(int) IllegalArgumentException,IllegalStateException",
        "int down(int) IndexOutOfBoundsException,IllegalStateException",
        "int up(int) IndexOutOfBoundsException,IllegalStateException",
        "int mend(int) IndexOutOfBoundsException,IllegalStateException",
        "int mendAll() ",
        "int turn(int) IllegalArgumentException",
        "int degree(int) IllegalArgumentException",
        "int spot(int,int) IndexOutOfBoundsException,IllegalArgumentException",
        "int lookup(int,int,boolean) IndexOutOfBoundsException,IllegalArgumentException,IllegalStateException",
        "int latest(int) NoSuchElementException",
        "int step(int,int) NoSuchElementException",
        "int why(int) ",
        "int owner(int) IllegalArgumentException",
        "int node(int,int) IndexOutOfBoundsException,NoSuchElementException",
        "int link(int,int,boolean) IndexOutOfBoundsException",
        "int letter(int,int) IllegalArgumentException",
        "int overlap(int,int) IllegalArgumentException",
        "int shifted(int,int,int) IllegalArgumentException",
        "int start(int,int) IndexOutOfBoundsException,IllegalArgumentException,IllegalStateException",
        "int nearest(int) IllegalArgumentException",
        "int far(int,int) IndexOutOfBoundsException,IllegalStateException",
        "int apart(int,int) IndexOutOfBoundsException,IllegalArgumentException,IllegalStateException",
        "int sample(boolean,int) NoSuchElementException",
        "int cost(int,int) IllegalArgumentException",
        "int choice(int) IllegalArgumentException",
        "int takes(int,int) IndexOutOfBoundsException,IllegalArgumentException,IllegalStateException",
        "int worst(int) IndexOutOfBoundsException,IllegalStateException",
        "int traffic(int) IndexOutOfBoundsException,IllegalStateException",
        "int detour(int) IllegalArgumentException",
        "int quickest(int) IllegalArgumentException",
        "int better(int) IndexOutOfBoundsException",
        "int host(int) IllegalArgumentException",
        "int ideal(int,int) IndexOutOfBoundsException,IllegalArgumentException,IllegalStateException",
        "int enough(int) IllegalArgumentException",
        "int copies(int) IllegalArgumentException",
        "int put(int,int,int) IndexOutOfBoundsException,IllegalArgumentException,IllegalStateException",
        "int get(int,int) IndexOutOfBoundsException,IllegalArgumentException,IllegalStateException",
        "int settle(int) IndexOutOfBoundsException,IllegalStateException",
        "int held(int,int,int) IndexOutOfBoundsException,NoSuchElementException,IllegalArgumentException",
        "int about(int,int) NoSuchElementException,IllegalArgumentException",
        "int count(int) "};

    /** Of the library, what the class may call; more of rule 4 may be added when it is used. */
    private static final Pattern LIBRARY = Pattern.compile(
            "java/lang/Object\\.\"<init>\":\\(\\)V"
            + "|java/lang/Math\\.(max|min|abs):\\([IJ]+\\)[IJ]"
            + "|java/lang/Integer\\.bitCount:\\(I\\)I"
            + "|java/util/Arrays\\.fill:\\(\\[[IJ][IJ]\\)V"
            + "|java/lang/(IllegalArgument|IllegalState|IndexOutOfBounds)Exception\\.\"<init>\":\\(Ljava/lang/String;\\)V"
            + "|java/util/NoSuchElementException\\.\"<init>\":\\(Ljava/lang/String;\\)V");

    private static int wrong;
    private static int checks;

    private static void hold(boolean holds, String otherwise) {
        checks++;
        if (!holds) {
            wrong++;
            System.out.println(otherwise);
        }
    }

    // ---- the face and the members, by reflection ----

    private static List<Class<?>> classes() {
        List<Class<?>> all = new ArrayList<>();
        all.add(ShiftRing.class);
        all.addAll(Arrays.asList(ShiftRing.class.getDeclaredClasses()));
        return all;
    }

    private static String written(Method m) {
        return m.getReturnType().getSimpleName() + " " + m.getName() + "("
                + Arrays.stream(m.getParameterTypes()).map(Class::getSimpleName).collect(Collectors.joining(","))
                + ") " + Arrays.stream(m.getExceptionTypes()).map(Class::getSimpleName).collect(Collectors.joining(","));
    }

    private static void face() {
        Set<String> got = new TreeSet<>();
        for (Method m : ShiftRing.class.getDeclaredMethods()) {
            if (!Modifier.isPrivate(m.getModifiers())) {
                got.add(written(m));
                hold(Modifier.isPublic(m.getModifiers()), m + " is neither private nor public");
                hold(!Modifier.isStatic(m.getModifiers()), m + " is static");
            }
        }
        Set<String> due = new TreeSet<>(Arrays.asList(FACE));
        hold(got.equals(due), "the face is " + got + "\n due is " + due);
        int modifiers = ShiftRing.class.getModifiers();
        hold(Modifier.isPublic(modifiers) && Modifier.isFinal(modifiers), "the class is not public and final");
        Constructor<?>[] makers = ShiftRing.class.getDeclaredConstructors();
        hold(makers.length == 1 && makers[0].getParameterCount() == 0 && Modifier.isPublic(makers[0].getModifiers()),
                "the constructors are not as due");
        for (Field f : ShiftRing.class.getDeclaredFields()) {
            hold(Modifier.isPrivate(f.getModifiers()) != f.getName().equals("NONE"), f + " is not private");
        }
        hold(ShiftRing.NONE == -1, "NONE is " + ShiftRing.NONE);
    }

    private static void members() {
        Set<String> names = new TreeSet<>();
        for (Method m : ShiftRing.class.getMethods()) {
            names.add(m.getName());
        }
        hold(classes().size() <= 12, classes().size() + " classes");
        for (Class<?> c : classes()) {
            int fields = 0;
            for (Field f : c.getDeclaredFields()) {
                int modifiers = f.getModifiers();
                fields += Modifier.isStatic(modifiers) ? 0 : 1;
                hold(!Modifier.isStatic(modifiers) || Modifier.isFinal(modifiers) && f.getType().isPrimitive(),
                        f + " is static and no constant");
            }
            hold(fields <= 20, c + " has " + fields + " fields");
            hold(c == ShiftRing.class || Modifier.isStatic(c.getModifiers()) && !Modifier.isPublic(c.getModifiers())
                    && c.getDeclaredClasses().length == 0, c + " is not static, or public, or has classes inside");
            for (Method m : c.getDeclaredMethods()) {
                hold(m.getParameterCount() <= 7, m + " takes too much");
                boolean isFace = c == ShiftRing.class && Modifier.isPublic(m.getModifiers());
                hold(isFace || !names.contains(m.getName()), m + " bears the name of a public one");
            }
        }
    }

    // ---- what is called, by the compiled code ----

    private static final class Body {
        final Set<String> calls = new LinkedHashSet<>();
        boolean makes;
        boolean throwsItself;
        boolean catches;
        boolean indy;
    }

    private static String disassembled() {
        List<String> args = new ArrayList<>(List.of("-c", "-p", "-s", "-cp",
                ShiftRing.class.getProtectionDomain().getCodeSource().getLocation().getPath()));
        for (Class<?> c : classes()) {
            args.add(c.getName());
        }
        StringWriter out = new StringWriter();
        ToolProvider javap = ToolProvider.findFirst("javap").orElseThrow();
        PrintWriter printer = new PrintWriter(out);
        int code = javap.run(printer, printer, args.toArray(new String[0]));
        printer.flush();
        hold(code == 0, "javap ended with " + code);
        return out.toString();
    }

    private static final Pattern CLASS = Pattern.compile("^[a-z ]*class (ShiftRing\\S*).*\\{$");
    private static final Pattern HEAD = Pattern.compile("^  (?:\\S.* )?([\\w$]+)\\(.*\\).*;$");
    private static final Pattern DESCRIPTOR = Pattern.compile("^    descriptor: (\\(.*)$");
    private static final Pattern CODE = Pattern.compile("^ +\\d+: (\\w+)(?:.*?// (?:InterfaceMethod|Method|class) (\\S+))?.*$");

    private static Map<String, Body> bodies() {
        Map<String, Body> bodies = new LinkedHashMap<>();
        String inClass = "";
        String name = "";
        Body body = null;
        for (String line : disassembled().split("\n")) {
            Matcher m;
            if ((m = CLASS.matcher(line)).matches()) {
                inClass = m.group(1);
            } else if ((m = HEAD.matcher(line)).matches()) {
                name = m.group(1).equals(inClass) ? "\"<init>\"" : m.group(1);
            } else if ((m = DESCRIPTOR.matcher(line)).matches()) {
                body = new Body();
                bodies.put(inClass + "." + name + ":" + m.group(1), body);
            } else if (line.contains("Exception table:") && body != null) {
                body.catches = true;
            } else if ((m = CODE.matcher(line)).matches() && body != null) {
                read(body, inClass, m.group(1), m.group(2));
            }
        }
        return bodies;
    }

    private static void read(Body body, String inClass, String code, String what) {
        if (code.startsWith("invoke")) {
            body.indy |= code.equals("invokedynamic");
            boolean own = what.indexOf('.') < 0 || what.indexOf('.') > what.indexOf(':');
            body.calls.add(own ? inClass + "." + what : what);
        }
        boolean madeException = code.equals("new") && what.endsWith("Exception");
        body.makes |= (code.equals("new") && !madeException) || code.endsWith("newarray");
        body.throwsItself |= code.equals("athrow");
    }

    /** The longest chain of calls that begins with a method. */
    private static List<String> chain(Map<String, Body> bodies, String call, int open) {
        List<String> longest = List.of();
        hold(open <= 40, call + " goes on and on");
        for (String other : bodies.get(call).calls) {
            if (bodies.containsKey(other) && open <= 40) {
                List<String> rest = chain(bodies, other, open + 1);
                longest = rest.size() > longest.size() ? rest : longest;
            }
        }
        List<String> all = new ArrayList<>(List.of(call));
        all.addAll(longest);
        return all;
    }

    private static void code() {
        Map<String, Body> bodies = bodies();
        hold(bodies.size() > FACE.length, "only " + bodies.size() + " methods were read");
        for (Map.Entry<String, Body> entry : bodies.entrySet()) {
            String name = entry.getKey();
            Body body = entry.getValue();
            boolean maker = name.contains("<init>");
            List<String> chain = chain(bodies, name, 1);
            hold(chain.size() <= 8, chain.size() + " deep: " + chain);
            hold(maker || !body.makes, name + " makes something");
            hold(!maker || !body.throwsItself, name + " is a constructor and throws");
            hold(!body.catches, name + " catches");
            hold(!body.indy, name + " has a lambda or joins texts");
            for (String call : body.calls) {
                hold(bodies.containsKey(call) || LIBRARY.matcher(call).matches(), name + " calls " + call);
            }
        }
    }

    // ---- the source ----

    private static void source() throws IOException {
        List<String> lines = Files.readAllLines(SOURCE, StandardCharsets.UTF_8);
        int begun = -1;
        for (int k = 0; k < lines.size(); k++) {
            String line = lines.get(k);
            hold(line.chars().allMatch(c -> c >= 32 && c < 127), "line " + (k + 1) + " has another sign than ASCII");
            if (line.matches(" {4}( {4})?[\\w\\[\\]].*\\) (throws .*)?\\{") || line.matches(" {4}( {4})?[\\w\\[\\]].*\\($")
                    || line.matches(" {12}throws .*\\{")) {
                begun = k;
            } else if (line.matches(" {4}( {4})?\\}")) {
                hold(begun < 0 || k - begun < 60, "a method of " + (k - begun) + " lines ends at line " + (k + 1));
                begun = -1;
            }
            hold(!line.matches(".*\\b(try|catch|finally|synchronized|assert|native|volatile|transient|var)\\b(?![^\"]*\").*")
                    || line.trim().startsWith("*") || line.trim().startsWith("/"),
                    "line " + (k + 1) + " has a word that is not for it");
        }
    }

    public static void main(String[] args) throws IOException {
        face();
        members();
        code();
        source();
        System.out.println(checks + " checks, " + wrong + " not as due");
        if (wrong != 0) {
            System.exit(1);
        }
    }
}
