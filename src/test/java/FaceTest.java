import java.io.IOException;
import java.lang.reflect.Constructor;
import java.lang.reflect.Field;
import java.lang.reflect.Member;
import java.lang.reflect.Method;
import java.lang.reflect.Modifier;
import java.nio.charset.StandardCharsets;
import java.nio.file.Files;
import java.nio.file.Path;
import java.util.Arrays;
import java.util.TreeSet;

/** The public face, and rules of LANGUAGE.md that can be seen in the class or in its text. */
public final class FaceTest {
    private static final String[] METHODS = {
        "int module(int, long)", "int cord(int, int, int, boolean)", "int point(int, long, long)",
        "int begin(int, long)", "int setting(int, long)", "int rule(int, int)", "int check()", "int broken()",
        "int level(int)", "int mode(int)", "int now()", "int run(int)", "int fail(int, int)", "int time()",
        "long reading(int)", "int single(int)", "int lamp(int)", "long apart(int)", "long rate(int)",
        "int strip(int)", "int samples(int)", "long sample(int, int)", "int crossing(int, int)",
        "int peak(int, int)", "int sweep(int, long, long, int, int, int)", "long swept(int)",
        "long halved(int, int)", "int about(int, int)", "int count(int)", "long digest()"};
    private static final String[] FORBIDDEN = {"import ", "package ", "Double.", "Float.", "sqrt", "strictfp",
        "synchronized", "assert", "finally", "->", "::", "Exact", "System.out", "static {", "MIN_VALUE", "MAX_VALUE",
        "native", "volatile", "Random", "Thread", "protected", "var ", "NaN", "catch", "throw "};

    private static String told(Method m) {
        StringBuilder all = new StringBuilder(m.getReturnType().getName() + " " + m.getName() + "(");
        for (int i = 0; i < m.getParameterCount(); i++) {
            all.append(i == 0 ? "" : ", ").append(m.getParameterTypes()[i].getName());
        }
        return all.append(")").toString();
    }

    private static boolean isPrivate(Member m) {
        return Modifier.isPrivate(m.getModifiers());
    }

    private static void face() throws ReflectiveOperationException {
        Class<?> c = TwinPanel.class;
        Due.dueTrue("public and final", Modifier.isPublic(c.getModifiers()) && Modifier.isFinal(c.getModifiers()));
        TreeSet<String> due = new TreeSet<>(Arrays.asList(METHODS));
        TreeSet<String> names = new TreeSet<>();
        for (Method m : c.getDeclaredMethods()) {
            if (!isPrivate(m)) {
                Due.dueTrue("of the face: " + told(m), due.remove(told(m)) && Modifier.isPublic(m.getModifiers()));
                names.add(m.getName());
            }
        }
        Due.dueTrue("the face has all, but " + due, due.isEmpty());
        privateNames(c, names);
        Constructor<?>[] constructors = c.getDeclaredConstructors();
        Due.due("constructors", constructors.length, 1);
        Due.dueTrue("it is public", Modifier.isPublic(constructors[0].getModifiers()));
        Due.due("its parameters", constructors[0].getParameterCount(), 0);
        int constants = 0;
        for (Field f : c.getDeclaredFields()) {
            if (!isPrivate(f)) {
                constants++;
                Due.dueTrue("a constant of int: " + f, f.getType() == int.class && Modifier.isPublic(f.getModifiers())
                    && Modifier.isStatic(f.getModifiers()) && Modifier.isFinal(f.getModifiers()));
            }
        }
        Due.due("constants", constants, 5);
        Due.due("NONE", c.getField("NONE").getInt(null), -1);
        Due.due("UNKNOWN", c.getField("UNKNOWN").getInt(null), -101);
        Due.due("OUTSIDE", c.getField("OUTSIDE").getInt(null), -102);
        Due.due("STATE", c.getField("STATE").getInt(null), -103);
        Due.due("FULL", c.getField("FULL").getInt(null), -104);
    }

    /** The document's face, line by line, is the one that is tested here. */
    private static void faceOfTheDocument() throws IOException {
        Path document = Path.of("../shared/DOC.md");
        if (!Files.exists(document)) {
            System.out.println(document + " is not here: the face was not compared with it");
            return;
        }
        TreeSet<String> due = new TreeSet<>();
        for (String line : Files.readAllLines(document, StandardCharsets.UTF_8)) {
            if (line.matches("    public (int|long) .*\\);")) {
                String call = line.trim().substring("public ".length()).replace(";", "");
                due.add(call.replaceAll("(int|long|boolean) [a-z]+(?=[,)])", "$1"));
            }
        }
        Due.dueText("the face", new TreeSet<>(Arrays.asList(METHODS)).toString(), due.toString());
    }

    private static void privateNames(Class<?> c, TreeSet<String> names) {
        for (Method m : c.getDeclaredMethods()) {
            if (isPrivate(m)) {
                Due.dueTrue("no name of the face: " + m, !names.contains(m.getName()));
            }
        }
        for (Class<?> inside : c.getDeclaredClasses()) {
            Due.dueTrue("static: " + inside, Modifier.isStatic(inside.getModifiers()));
            int fields = 0;
            for (Field f : inside.getDeclaredFields()) {
                fields += Modifier.isStatic(f.getModifiers()) ? 0 : 1;
            }
            Due.dueTrue("at most twenty fields: " + inside, fields <= 20);
            for (Method m : inside.getDeclaredMethods()) {
                Due.dueTrue("no name of the face: " + m, !names.contains(m.getName()));
                Due.dueTrue("at most seven parameters: " + m, m.getParameterCount() <= 7);
            }
        }
        Due.dueTrue("at most twelve classes", c.getDeclaredClasses().length < 12);
    }

    private static void staticFields(Class<?> c) {
        for (Field f : c.getDeclaredFields()) {
            if (Modifier.isStatic(f.getModifiers())) {
                Class<?> t = f.getType();
                boolean isAllowed = t == int.class || t == long.class || t == boolean.class || t == char.class
                    || t == String.class || t == int[].class || t == long[].class || t == char[].class
                    || t == byte[].class;
                Due.dueTrue("a constant: " + f, isAllowed && Modifier.isFinal(f.getModifiers()));
            }
        }
        for (Class<?> inside : c.getDeclaredClasses()) {
            staticFields(inside);
        }
    }

    private static void text() throws IOException {
        String source = Files.readString(Path.of("src/main/java/TwinPanel.java"), StandardCharsets.ISO_8859_1);
        String code = source.replaceAll("(?s)/\\*.*?\\*/", "").replaceAll("//[^\n]*", "");
        for (String word : FORBIDDEN) {
            Due.dueTrue("without '" + word + "'", !code.contains(word));
        }
        int sinceBrace = 0;
        for (String line : code.split("\n")) {
            boolean opensMethod = line.matches(" {4,8}[a-zA-Z].*\\) \\{");
            sinceBrace = opensMethod || line.matches(" {0,4}\\}") ? 0 : sinceBrace + 1;
            Due.dueTrue("methods of at most sixty lines: " + line, sinceBrace <= 60);
            Due.dueTrue("lines of at most 120 signs: " + line, line.length() <= 120);
        }
    }

    public static void main(String[] args) throws IOException, ReflectiveOperationException {
        face();
        faceOfTheDocument();
        staticFields(TwinPanel.class);
        text();
        Due.end();
    }
}
