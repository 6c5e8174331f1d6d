import java.lang.reflect.Constructor;
import java.lang.reflect.Field;
import java.lang.reflect.Method;
import java.lang.reflect.Modifier;
import java.nio.file.Files;
import java.nio.file.Path;
import java.util.Arrays;
import java.util.TreeSet;
import java.util.regex.Pattern;

/** The public face is the document's and no more, and the source keeps to what LANGUAGE.md leaves. */
public final class FaceTests {
    private static final Path DOCUMENT = Path.of("../shared/DOC.md");
    private static final String[] METHODS = {
        "boolean format(int, int, int)", "int feed(int, long, long)", "int register(int)", "int begin(int, int)",
        "int send(int, int, int, int, boolean)", "int later(int, int, int, int, int)", "int end(int, int, boolean)",
        "int mark(int, int, int)", "int marked(int, int)", "int tick(int)", "int fetch(int, int, boolean)",
        "int answer(int)", "int sync()", "int crash(int)", "int open()", "int partition(int, int)",
        "int entry(int, int, int)", "int producer(int, int)", "int next(int, int)", "int byteOf(int, int)",
        "int count(int)"};
    private static final int MOST_CLASSES = 12;
    private static final int MOST_FIELDS = 20;
    private static final int MOST_PARAMETERS = 7;
    private static final String[] FORBIDDEN = {"\\bthrows?\\b", "\\btry\\b", "\\bcatch\\b", "\\bsynchronized\\b",
        "\\bassert\\b", "\\bprotected\\b", "Exact\\b", "->", "::", "\\bvolatile\\b", "\\bnative\\b",
        "System\\.(?!arraycopy)", "\\bObject\\b", "\\bRandom\\b", "\\bThread\\b"};

    private static int wrong = 0;

    private static void check(boolean holds, String rule) {
        if (!holds) {
            wrong++;
            System.out.println("does not hold: " + rule);
        }
    }

    public static void main(String[] args) throws Exception {
        document();
        members();
        for (Class<?> inside : OnceLedger.class.getDeclaredClasses()) sizes(inside);
        sizes(OnceLedger.class);
        source();
        System.out.println(wrong == 0 ? "the face is as due" : wrong + " rules do not hold");
        if (wrong != 0) System.exit(1);
    }

    /** The list above is the document's, word for word but for the names of the parameters. */
    private static void document() throws Exception {
        if (!Files.exists(DOCUMENT)) {
            System.out.println("no " + DOCUMENT + " to compare the face with");
            return;
        }
        String text = Files.readString(DOCUMENT);
        int start = Math.max(text.indexOf("```java\n"), 0);
        String face = text.substring(start, Math.max(text.indexOf("\n```\n", start), start));
        TreeSet<String> told = new TreeSet<>();
        for (String line : face.split("\n")) {
            String member = line.trim();
            if (member.matches("public (boolean|int) \\w+\\(.*\\);")) {
                told.add(member.replaceAll("^public |;$", "").replaceAll("(boolean|int|long) \\w+(?=[,)])", "$1"));
            }
        }
        check(told.equals(new TreeSet<>(Arrays.asList(METHODS))), "the document's methods: " + told);
        check(face.contains("public static final int NONE = -1;"), "the document's NONE");
        check(face.contains("public final class OnceLedger {"), "the document's class");
    }

    private static void sizes(Class<?> c) {
        int fields = 0;
        for (Field f : c.getDeclaredFields()) fields += Modifier.isStatic(f.getModifiers()) ? 0 : 1;
        check(fields <= MOST_FIELDS, c + " has " + fields + " fields");
        for (Method m : c.getDeclaredMethods()) {
            check(m.getParameterCount() <= MOST_PARAMETERS, m + " has too many parameters");
        }
    }

    private static void members() throws Exception {
        Class<?> face = OnceLedger.class;
        check(Modifier.isPublic(face.getModifiers()) && Modifier.isFinal(face.getModifiers()), "public and final");
        TreeSet<String> found = new TreeSet<>();
        TreeSet<String> hidden = new TreeSet<>();
        TreeSet<String> names = new TreeSet<>();
        for (Method m : face.getDeclaredMethods()) {
            String args = Arrays.toString(Arrays.stream(m.getParameterTypes()).map(Class::getName).toArray());
            String line = m.getReturnType() + " " + m.getName() + "(" + args.substring(1, args.length() - 1) + ")";
            if (Modifier.isPublic(m.getModifiers())) {
                found.add(line);
                names.add(m.getName());
            } else {
                check(Modifier.isPrivate(m.getModifiers()), "private " + line);
                hidden.add(m.getName());
            }
        }
        check(found.equals(new TreeSet<>(Arrays.asList(METHODS))), "the methods of the document: " + found);
        hidden.retainAll(names);
        check(hidden.isEmpty(), "no private method bears a public one's name: " + hidden);
        Constructor<?>[] made = face.getDeclaredConstructors();
        check(made.length == 1 && Modifier.isPublic(made[0].getModifiers())
            && made[0].getParameterCount() == 0, "one public constructor");
        for (Field f : face.getDeclaredFields()) {
            int m = f.getModifiers();
            check(f.getName().equals("NONE") ? Modifier.isPublic(m) && Modifier.isStatic(m) && Modifier.isFinal(m)
                : Modifier.isPrivate(m), "field " + f.getName());
            check(!Modifier.isStatic(m) || Modifier.isFinal(m), "static and not final: " + f.getName());
        }
        check(face.getField("NONE").getType() == int.class && face.getField("NONE").getInt(null) == -1, "NONE is -1");
        check(face.getDeclaredClasses().length < MOST_CLASSES, "few classes");
        for (Class<?> inside : face.getDeclaredClasses()) {
            check(Modifier.isStatic(inside.getModifiers()), "static " + inside.getName());
        }
    }

    private static void source() throws Exception {
        String text = Files.readString(Path.of("src/main/java/OnceLedger.java"))
            .replaceAll("(?s)/\\*.*?\\*/", "").replaceAll("//[^\n]*", "");
        for (String word : FORBIDDEN) {
            check(!Pattern.compile(word).matcher(text).find(), "the source has no " + word);
        }
        for (String line : text.split("\n")) {
            check(!line.startsWith("import ") || line.equals("import java.util.Arrays;"), line);
            check(!line.startsWith("package "), line);
        }
    }
}
