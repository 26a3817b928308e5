import java.io.IOException;
import java.lang.reflect.Constructor;
import java.lang.reflect.Field;
import java.lang.reflect.Method;
import java.lang.reflect.Modifier;
import java.nio.file.Files;
import java.nio.file.Path;
import java.util.ArrayList;
import java.util.Arrays;
import java.util.List;
import java.util.Set;
import java.util.TreeSet;
import java.util.regex.Matcher;
import java.util.regex.Pattern;

/** The class's face, and what of LANGUAGE.md can be seen in the class or in its source. */
public final class FaceTest {
    private static final Path SOURCE = Path.of("src/main/java/TokenHouse.java");
    private static final String ARGUMENT = "java.lang.IllegalArgumentException";
    private static final String STATE = "java.lang.IllegalStateException";
    private static final String ELEMENT = "java.util.NoSuchElementException";
    private static final Set<String> FACE = new TreeSet<>(List.of(
            "public int TokenHouse.node(int,int) throws " + ARGUMENT + "," + STATE,
            "public boolean TokenHouse.arc(int,int,int,int)",
            "public boolean TokenHouse.token(int,int,long)",
            "public int TokenHouse.run(int,long) throws " + ARGUMENT + "," + STATE,
            "public void TokenHouse.clear(boolean)",
            "public int TokenHouse.ready(int,int)",
            "public long TokenHouse.result(int,int) throws " + ELEMENT,
            "public int TokenHouse.context(int,int) throws " + ELEMENT,
            "public long TokenHouse.cell(int,int,int) throws " + ELEMENT,
            "public int TokenHouse.waiting(int,int)",
            "public int TokenHouse.total(int)"));
    private static final List<String> BARRED = List.of("catch", "finally", "synchronized", "assert", "->", "::",
            "\\.stream", "Random", "System\\.", "Thread", "@Override", "\\bObject\\b", "volatile", "\\bNaN\\b",
            "hashCode", "toString", "\\.equals", "static \\{", "while \\(true\\)", "for \\(;;\\)", "\\bdouble\\b",
            "\\bfloat\\b", "\" \\+", "\\+ \"", "Exact\\(", "values\\(\\)", "\\btry\\b");
    /** Rule 4, as far as the class uses it. */
    private static final Set<String> LIBRARY = Set.of("add", "get", "remove", "size", "isEmpty", "clear", "min");
    private static final Set<String> THROWN = Set.of("IllegalArgumentException", "IllegalStateException",
            "NoSuchElementException");
    private static final Set<Class<?>> PLAIN = Set.of(int.class, long.class, boolean.class, String.class);
    private static final Set<Class<?>> CONSTANT = Set.of(int.class, long.class, boolean.class, char.class,
            String.class, int[].class, long[].class, char[].class, byte[].class);
    private static final int MOST_LINES = 60;
    private static final int MOST_PARAMETERS = 7;
    private static int wrong = 0;

    private static void must(boolean held, String what) {
        if (!held) {
            wrong++;
            System.out.println(what);
        }
    }

    private static void faceIsTheDocuments() throws NoSuchFieldException {
        Set<String> seen = new TreeSet<>();
        Set<String> names = new TreeSet<>();
        Set<String> hidden = new TreeSet<>();
        for (Method m : TokenHouse.class.getDeclaredMethods()) {
            if (Modifier.isPrivate(m.getModifiers())) {
                hidden.add(m.getName());
            } else if (!m.isSynthetic()) {
                seen.add(m.toString());
                names.add(m.getName());
            }
        }
        must(seen.equals(FACE), "the face is " + seen);
        hidden.retainAll(names);
        must(hidden.isEmpty(), "private methods with names of the face: " + hidden);
        Constructor<?>[] made = TokenHouse.class.getDeclaredConstructors();
        must(made.length == 1 && made[0].toString().equals("public TokenHouse()"), "constructors: "
                + Arrays.toString(made));
        must(TokenHouse.class.getField("NONE").toString().equals("public static final int TokenHouse.NONE"), "NONE");
        must(Modifier.isFinal(TokenHouse.class.getModifiers()), "the class is not final");
    }

    private static void fieldsAreHidden() {
        for (Field f : TokenHouse.class.getDeclaredFields()) {
            must(Modifier.isPrivate(f.getModifiers()) || f.getName().equals("NONE"), f + " is not private");
            boolean still = !Modifier.isStatic(f.getModifiers()) || Modifier.isFinal(f.getModifiers());
            must(still, f + " is static and not final");
        }
        Class<?>[] inside = TokenHouse.class.getDeclaredClasses();
        must(inside.length < 12, "there are " + inside.length + " classes inside");
        for (Class<?> c : inside) {
            int seen = c.getModifiers();
            must(Modifier.isStatic(seen) && !Modifier.isPublic(seen) && !Modifier.isProtected(seen), c + " is shown");
            must(c.getDeclaredFields().length <= 20, c + " has too many fields");
        }
    }

    private static void sourceKeepsToTheLanguage() throws IOException {
        String source = Files.readString(SOURCE);
        for (String barred : BARRED) {
            must(!Pattern.compile(barred).matcher(source).find(), "the source has " + barred);
        }
        Matcher imports = Pattern.compile("import ([^;]*);").matcher(source);
        while (imports.find()) {
            must(List.of("java.util.ArrayList", "java.util.NoSuchElementException").contains(imports.group(1)),
                    "the source imports " + imports.group(1));
        }
        must(source.chars().allMatch(c -> c < 128), "the source has other characters than ASCII");
        must(!Pattern.compile("^package", Pattern.MULTILINE).matcher(source).find(), "the source has a package");
    }

    private static List<Class<?>> allClasses() {
        List<Class<?>> all = new ArrayList<>(List.of(TokenHouse.class.getDeclaredClasses()));
        all.add(TokenHouse.class);
        return all;
    }

    /** Rules 3 and 5: the types of fields. */
    private static void fieldsAreOfTheTypesAllowed() {
        for (Class<?> c : allClasses()) {
            for (Field f : c.getDeclaredFields()) {
                Class<?> type = f.getType();
                Class<?> part = type.isArray() ? type.getComponentType() : type;
                boolean own = part.getName().startsWith("TokenHouse$");
                boolean fits = Modifier.isStatic(f.getModifiers()) ? CONSTANT.contains(type)
                        : own || PLAIN.contains(part) || type == ArrayList.class;
                must(fits, f + " is of a type that the language leaves out");
            }
        }
    }

    /** Rule 11: at most seven parameters, of methods and of constructors. */
    private static void parametersAreFew() {
        for (Class<?> c : allClasses()) {
            for (Method m : c.getDeclaredMethods()) {
                must(m.getParameterCount() <= MOST_PARAMETERS, m + " takes too much");
            }
            for (Constructor<?> made : c.getDeclaredConstructors()) {
                must(made.getParameterCount() <= MOST_PARAMETERS, made + " takes too much");
            }
        }
    }

    /** Rule 11: some sixty lines; a method begins and ends at the same depth of four or eight blanks. */
    private static void methodsAreShort() throws IOException {
        Pattern method = Pattern.compile("^( {4}| {8})(?! )([^\\n;=]*\\)[^\\n;=]*) \\{\\n(.*?)^\\1\\}$",
                Pattern.MULTILINE | Pattern.DOTALL);
        Matcher m = method.matcher(Files.readString(SOURCE));
        int seen = 0;
        while (m.find()) {
            seen++;
            must(m.group(3).lines().count() <= MOST_LINES, m.group(2) + " is too long");
        }
        must(seen > FACE.size(), "the source has only " + seen + " methods that this test sees");
    }

    /** Rule 4: every call behind a dot is one of the class's own, or of the library's few. */
    private static void callsAreTheClassesOwnOrFew() throws IOException {
        Set<String> own = new TreeSet<>();
        for (Class<?> c : allClasses()) {
            for (Method m : c.getDeclaredMethods()) {
                own.add(m.getName());
            }
        }
        Matcher call = Pattern.compile("\\.(\\w+)\\(").matcher(Files.readString(SOURCE));
        while (call.find()) {
            String name = call.group(1);
            must(own.contains(name) || LIBRARY.contains(name), "the source calls " + name);
        }
    }

    /** Rule 6: what is thrown has a written text, and only the face's methods throw. */
    private static void throwsAreWritten() throws IOException {
        String source = Files.readString(SOURCE);
        Matcher thrown = Pattern.compile("\\bthrow\\b([^;]*);").matcher(source);
        int seen = 0;
        while (thrown.find()) {
            seen++;
            Matcher form = Pattern.compile(" new (\\w+)\\(\"[^\"+]*\"\\)").matcher(thrown.group(1));
            must(form.matches() && THROWN.contains(form.group(1)), "the source has throw" + thrown.group(1));
        }
        must(seen > 0, "the source throws nothing");
        must(source.lastIndexOf("throw new") < source.indexOf("    private Node nodeAt("), "a hidden method throws");
    }

    public static void main(String[] args) throws IOException, NoSuchFieldException {
        faceIsTheDocuments();
        fieldsAreHidden();
        sourceKeepsToTheLanguage();
        fieldsAreOfTheTypesAllowed();
        parametersAreFew();
        methodsAreShort();
        callsAreTheClassesOwnOrFew();
        throwsAreWritten();
        System.out.println(wrong == 0 ? "the face is as due" : wrong + " things are not as due");
        if (wrong != 0) {
            System.exit(1);
        }
    }
}
