import java.io.IOException;
import java.lang.reflect.Array;
import java.lang.reflect.Constructor;
import java.lang.reflect.Field;
import java.lang.reflect.InvocationTargetException;
import java.lang.reflect.Method;
import java.lang.reflect.Modifier;
import java.nio.file.Files;
import java.nio.file.Path;
import java.util.ArrayList;
import java.util.Arrays;
import java.util.Collections;
import java.util.Comparator;
import java.util.IdentityHashMap;
import java.util.List;
import java.util.Map;
import java.util.Random;
import java.util.Set;
import java.util.TreeMap;
import java.util.TreeSet;
import java.util.regex.Matcher;
import java.util.regex.Pattern;

/** The rules of LANGUAGE.md that a program can look at, and the face of the document. */
public final class LanguageTest {
    private static final Check CHECK = new Check("LanguageTest");
    private static final List<String> FACE = List.of(
        "int name(int,int,int)", "long points()", "int value(long,int)", "long number(long)",
        "int distance(long,long)", "int trial(int,int)", "int guess(int,int,int)", "long forecast(long,int,int)",
        "int score(int,int,boolean)", "int report(int,int,int)", "int told(int,int)", "long point(int)",
        "int reported(int,int)", "int best()", "int bracket(int,int,int,int)", "int result(int,int,boolean)",
        "int halve()", "int round(int)", "long cost()", "int plan(int,int,int,int)", "int folds(int,int,int,int)",
        "int fold(int,int)", "int use(int,int)", "int used(int,int,int)");

    public static void main(String[] args) throws IOException, IllegalAccessException {
        String path = System.getenv().getOrDefault("TRIAL_SEARCH_SOURCE", "src/main/java/TrialSearch.java");
        String source = withoutComments(Files.readString(Path.of(path)));
        face();
        constants();
        classesInside();
        membersOfAll();
        words(source);
        objectsOnlyInConstructors(source);
        oneObjectTakesLittleRoom();
        noCallThrows();
        Map<String, String> methods = methodsAreShort(source);
        callsEndBelow(methods);
        CHECK.end();
    }

    private static String withoutComments(String source) {
        return source.replaceAll("(?s)/\\*.*?\\*/", "").replaceAll("//[^\n]*", "");
    }

    private static void face() {
        Set<String> seen = new TreeSet<>();
        for (Method method : TrialSearch.class.getDeclaredMethods()) {
            if (!Modifier.isPrivate(method.getModifiers())) {
                CHECK.holds("rule 1: public: " + method, method.getModifiers() == Modifier.PUBLIC);
                String text = method.toString().replace("public ", "").replace("TrialSearch.", "");
                seen.add(text);
            }
        }
        CHECK.holds("rule 1: the methods of the face, seen " + seen, seen.equals(new TreeSet<>(FACE)));
        CHECK.holds("rule 1: public and final",
            TrialSearch.class.getModifiers() == (Modifier.PUBLIC | Modifier.FINAL));
        Constructor<?>[] made = TrialSearch.class.getDeclaredConstructors();
        CHECK.holds("rule 1: one public constructor", made.length == 1 && made[0].getModifiers() == Modifier.PUBLIC
            && made[0].getParameterCount() == 0);
    }

    private static void constants() {
        CHECK.due("BAD", TrialSearch.BAD, -1);
        CHECK.due("NONE", TrialSearch.NONE, -2);
        CHECK.due("NOT", TrialSearch.NOT, -3);
        CHECK.due("FULL", TrialSearch.FULL, -4);
        List<String> open = new ArrayList<>();
        for (Field field : TrialSearch.class.getDeclaredFields()) {
            if (!Modifier.isPrivate(field.getModifiers())) {
                open.add(field.toString());
            }
        }
        CHECK.due("rule 1: constants that are not private", open.size(), 4);
    }

    private static void classesInside() {
        Class<?>[] inside = TrialSearch.class.getDeclaredClasses();
        CHECK.holds("rule 11: at most twelve classes", inside.length < 12);
        for (Class<?> one : inside) {
            CHECK.holds("rule 1: static: " + one, Modifier.isStatic(one.getModifiers()));
            CHECK.holds("rule 1: private or package-visible: " + one,
                !Modifier.isPublic(one.getModifiers()) && !Modifier.isProtected(one.getModifiers()));
        }
    }

    private static void membersOfAll() {
        List<Class<?>> all = new ArrayList<>(Arrays.asList(TrialSearch.class.getDeclaredClasses()));
        all.add(TrialSearch.class);
        for (Class<?> one : all) {
            int fields = 0;
            for (Field field : one.getDeclaredFields()) {
                boolean isStatic = Modifier.isStatic(field.getModifiers());
                fields += isStatic ? 0 : 1;
                CHECK.holds("rule 5: final: " + field, !isStatic || Modifier.isFinal(field.getModifiers()));
            }
            CHECK.holds("rule 11: some twenty fields: " + one, fields <= 20);
            for (Method method : one.getDeclaredMethods()) {
                CHECK.holds("rule 11: seven parameters: " + method, method.getParameterCount() <= 7);
                CHECK.holds("rule 1: not the name of a public one: " + method,
                    Modifier.isPublic(method.getModifiers()) || !isFaceName(method.getName()));
            }
        }
    }

    private static boolean isFaceName(String name) {
        for (String method : FACE) {
            if (method.contains(" " + name + "(")) {
                return true;
            }
        }
        return false;
    }

    private static void words(String source) {
        String[] banned = {"\\bthrow", "\\btry\\b", "\\bcatch\\b", "\\bsynchronized\\b", "\\bassert\\b", "->", "::",
            "Exact\\b", "\\bdouble\\b", "\\bfloat\\b", "\"", "\\bpackage\\b", "\\bThread\\b", "\\bRandom\\b",
            "nanoTime", "currentTimeMillis", "(?<!import )java\\.", "static \\{", "\\bequals\\b", "hashCode",
            "toString", "while \\(true\\)", "for \\(;;", "@"};
        for (String word : banned) {
            CHECK.holds("rules 3 to 13: no " + word, !Pattern.compile(word).matcher(source).find());
        }
        Matcher imports = Pattern.compile("import ([^;]*);").matcher(source);
        while (imports.find()) {
            CHECK.holds("rule 4: " + imports.group(), Set.of("java.util.Arrays", "java.util.ArrayList",
                "java.util.List").contains(imports.group(1)));
        }
        Matcher calls = Pattern.compile("\\b(Math|Arrays|System|Integer|Long)\\.(\\w+)").matcher(source);
        while (calls.find()) {
            CHECK.holds("rule 4: " + calls.group(), Set.of("Math.min", "Math.max", "Math.abs", "Arrays.fill",
                "System.arraycopy").contains(calls.group()));
        }
    }

    /** One room holds all calls of a run, so a call itself makes nothing. */
    private static void objectsOnlyInConstructors(String source) {
        boolean inConstructor = false;
        for (String line : source.split("\n")) {
            if (line.matches("\\s+(public )?[A-Z]\\w*\\([^;]*\\) \\{")) {
                inConstructor = true;
            } else if (line.matches("(    |        )\\}")) {
                inConstructor = false;
            }
            CHECK.holds("room: made by a constructor: " + line, inConstructor || !line.matches(".*\\bnew\\b.*"));
        }
    }

    /** Even if each of a run's 512 calls made an object, all of them would fit in the room. */
    private static void oneObjectTakesLittleRoom() throws IllegalAccessException {
        Set<Object> objects = Collections.newSetFromMap(new IdentityHashMap<>());
        long parts = countParts(new TrialSearch(), objects);
        CHECK.holds("room: objects and arrays: " + objects.size(), objects.size() <= 600_000 / 512);
        CHECK.holds("room: fields and elements: " + parts, parts <= 7_300_000 / 512);
    }

    private static long countParts(Object one, Set<Object> seen) throws IllegalAccessException {
        if (one == null || !seen.add(one)) {
            return 0;
        }
        long parts = 0;
        if (one.getClass().isArray()) {
            boolean ofObjects = !one.getClass().getComponentType().isPrimitive();
            for (int i = 0; i < Array.getLength(one); i++) {
                parts += 1 + (ofObjects ? countParts(Array.get(one, i), seen) : 0);
            }
            return parts;
        }
        for (Field field : one.getClass().getDeclaredFields()) {
            if (!Modifier.isStatic(field.getModifiers())) {
                field.setAccessible(true);
                parts += 1 + (field.getType().isPrimitive() ? 0 : countParts(field.get(one), seen));
            }
        }
        return parts;
    }

    /** Any arguments in any state, behind the 512th call too, where the answers are free. */
    private static void noCallThrows() throws IllegalAccessException {
        Method[] face = publicMethods();
        for (int seed = 0; seed < 60; seed++) {
            Random random = new Random(seed);
            TrialSearch x = new TrialSearch();
            String call = "";
            try {
                for (int i = 0; i < 3000; i++) {
                    Method method = face[random.nextInt(face.length)];
                    if (i < 900 * (seed % 3) && method.getName().matches("trial|guess")) {
                        // TRIALS come late in most runs, so that THE SPACE gets all its NAMES first.
                        continue;
                    }
                    Object[] arguments = anyArguments(method, random, 1 + seed % 8);
                    call = method.getName() + Arrays.toString(arguments);
                    method.invoke(x, arguments);
                }
                CHECK.holds("rule 7: no call throws, seed " + seed, true);
            } catch (InvocationTargetException e) {
                CHECK.holds("rule 7: seed " + seed + ", " + call + " throws " + e.getCause(), false);
            }
        }
    }

    /** In a fixed order, so that a seed always makes the same calls. */
    private static Method[] publicMethods() {
        Method[] methods = Arrays.stream(TrialSearch.class.getDeclaredMethods())
            .filter(method -> Modifier.isPublic(method.getModifiers())).toArray(Method[]::new);
        Arrays.sort(methods, Comparator.comparing(Method::getName));
        return methods;
    }

    /** Small kinds fill an object, great ones try what is outside; now and then a number is any of its type. */
    private static Object[] anyArguments(Method method, Random random, int kinds) {
        Class<?>[] types = method.getParameterTypes();
        Object[] arguments = new Object[types.length];
        for (int i = 0; i < types.length; i++) {
            int bits = random.nextInt(12) == 0 ? 64 : 2 + random.nextInt(kinds);
            long number = (random.nextLong() >> (64 - bits)) + (bits < 64 ? 1L << (bits - 2) : 0);
            arguments[i] = types[i] == boolean.class ? (Object) (number % 2 == 0)
                : types[i] == long.class ? (Object) number : (Object) (int) number;
        }
        return arguments;
    }

    /** The text of each method by its name; methods of one name in several classes are put together. */
    private static Map<String, String> methodsAreShort(String source) {
        Map<String, String> bodies = new TreeMap<>();
        String name = "";
        String end = "";
        int start = -1;
        String[] lines = source.split("\n");
        for (int i = 0; i < lines.length; i++) {
            Matcher header = Pattern.compile("( {4}| {8})(?:[\\w\\[\\]]+ )*(\\w+)\\([^;]*\\) \\{").matcher(lines[i]);
            if (start < 0 && header.matches()) {
                start = i;
                name = header.group(2);
                end = header.group(1) + "}";
            } else if (start >= 0 && lines[i].equals(end)) {
                CHECK.holds("rule 11: some sixty lines: " + lines[start], i - start < 60);
                String body = String.join("\n", Arrays.copyOfRange(lines, start + 1, i));
                bodies.merge(name, body, (a, b) -> a + "\n" + b);
                start = -1;
            }
        }
        return bodies;
    }

    private static void callsEndBelow(Map<String, String> methods) {
        for (String method : FACE) {
            String name = method.replaceAll(".* (\\w+)\\(.*", "$1");
            CHECK.holds("rule 11: found: " + name, methods.containsKey(name));
            int depth = depth(name, methods, List.of());
            CHECK.holds("rules 8 and 11: no recursion, at most eight deep: " + name, depth <= 8);
        }
    }

    /** How many methods stand open at once below and with this one; far too many, if one calls itself. */
    private static int depth(String name, Map<String, String> methods, List<String> above) {
        if (above.contains(name)) {
            return 1000;
        }
        List<String> open = new ArrayList<>(above);
        open.add(name);
        int deepest = 0;
        Matcher calls = Pattern.compile("\\b(\\w+)\\(").matcher(methods.get(name));
        while (calls.find()) {
            if (methods.containsKey(calls.group(1))) {
                deepest = Math.max(deepest, depth(calls.group(1), methods, open));
            }
        }
        return deepest + 1;
    }
}
