import java.io.File;
import java.io.IOException;
import java.nio.charset.StandardCharsets;
import java.nio.file.Files;
import java.nio.file.Path;
import java.util.ArrayList;
import java.util.List;
import java.util.TreeMap;
import java.util.TreeSet;
import java.util.regex.Matcher;
import java.util.regex.Pattern;

/** README.md says what is so: its example, its calls and their refusals, the tests and files that it names. */
public final class ReadmeTest {
    private static final Path README = Path.of("README.md");
    private static final Path DOCUMENT = Path.of("../shared/DOC.md");
    private static final Pattern REFUSAL = Pattern.compile("\\b(UNKNOWN|OUTSIDE|STATE|FULL)\\b(?! VALUE)");

    private static List<String> lines(Path file) throws IOException {
        return Files.readAllLines(file, StandardCharsets.UTF_8);
    }

    /** The lines of all fences of this sort. */
    private static List<String> fenced(String sort) throws IOException {
        List<String> found = new ArrayList<>();
        boolean isWithin = false;
        for (String line : lines(README)) {
            if (line.startsWith("```")) {
                isWithin = line.equals("```" + sort);
            } else if (isWithin) {
                found.add(line.trim());
            }
        }
        return found;
    }

    /** README's example, line by line, and what its remarks tell. */
    private static void example() throws IOException {
        TwinPanel x = new TwinPanel();
        int y = x.module(2, 0L);                                         // a GATHER: 0
        int v = x.module(2, 0L);                                         // another one: 1
        x.cord(y, 0, v, false);                                          // y' = v
        x.cord(v, 0, y, true);                                           // v' = -y
        x.begin(y, Double.doubleToRawLongBits(1.0));
        x.rule(2, 3);                                                    // RULE 2, steps of 1/8
        int s = x.strip(y);
        int wrong = x.check();                                           // 0: all is right
        int before = x.mode(1);                                          // to START; it was 0, PATCH
        int done = x.run(50);                                            // 50 steps
        double now = Double.longBitsToDouble(x.reading(y));              // close to cos(50 / 8)
        float single = Float.intBitsToFloat(x.single(y));                // the same in floats
        int firstCrossing = x.crossing(s, 0);                            // 13: the first sample that is not above 0
        int firstPeak = x.peak(s, 0);                                    // -1: none, the wave begins at its top
        double error = Double.longBitsToDouble(x.halved(y, 20));         // how far runs at half the step go apart
        int refused = x.cord(y, 0, v, true);                             // STATE: cords are tied in PATCH alone
        Due.due("y", y, 0);
        Due.due("v", v, 1);
        Due.due("wrong", wrong, 0);
        Due.due("before", before, 0);
        Due.due("done", done, 50);
        Due.dueTrue("now is close to cos(50 / 8)", Math.abs(now - Math.cos(50.0 / 8.0)) < 0.001);
        Due.dueTrue("single is close to it", Math.abs(now - single) < 0.001);
        Due.due("firstCrossing", firstCrossing, 13);
        Due.due("firstPeak", firstPeak, -1);
        Due.dueTrue("error is small, and not 0", error > 0.0 && error < 0.001);
        Due.due("refused", refused, TwinPanel.STATE);
        int at = 0;
        List<String> told = fenced("java");
        for (String line : lines(Path.of("src/test/java/ReadmeTest.java"))) {
            if (at < told.size() && line.trim().equals(told.get(at))) {
                at++;
            }
        }
        Due.due("lines of README's example that stand here", at, told.size());
        Due.dueTrue("it has an example", at > 10);
    }

    private static List<String> refusalsIn(String text) {
        List<String> found = new ArrayList<>();
        Matcher words = REFUSAL.matcher(text);
        while (words.find()) {
            found.add(words.group());
        }
        return found;
    }

    /** Of each call of the document its head, without types, and its refusals in their order. */
    private static TreeMap<String, String> callsOfTheDocument() throws IOException {
        TreeMap<String, String> calls = new TreeMap<>();
        for (String line : lines(DOCUMENT)) {
            Matcher head = Pattern.compile("^`(?:int|long) ([^`]*)`: (.*)$").matcher(line);
            if (head.matches()) {
                String text = head.group(2).replaceAll("0 also: [^.]*\\.", "");
                calls.put(head.group(1).replaceAll("(int|long|boolean) ", ""), refusalsIn(text).toString());
            }
        }
        return calls;
    }

    private static void calls() throws IOException {
        if (!Files.exists(DOCUMENT)) {
            System.out.println(DOCUMENT + " is not here: the calls were not compared with it");
            return;
        }
        TreeMap<String, String> told = new TreeMap<>();
        for (String line : lines(README)) {
            String[] parts = line.split("\\|", -1);
            if (line.matches("\\| `[a-z]+\\(.*") && parts.length == 6) {
                told.put(parts[1].trim().replace("`", ""), refusalsIn(parts[4]).toString());
            }
        }
        Due.due("calls", told.size(), 30);
        Due.dueText("the calls and their refusals", told.toString(), callsOfTheDocument().toString());
    }

    private static void constants() throws IOException {
        String page = String.join("\n", lines(README));
        String[] names = {"UNKNOWN", "OUTSIDE", "STATE", "FULL"};
        int[] values = {TwinPanel.UNKNOWN, TwinPanel.OUTSIDE, TwinPanel.STATE, TwinPanel.FULL};
        for (int i = 0; i < names.length; i++) {
            Due.dueTrue(names[i] + " with its number", page.contains("| `" + names[i] + "` | " + values[i] + " |"));
        }
        Due.dueTrue("NONE with its number", page.contains("`NONE` (" + TwinPanel.NONE + ")"));
    }

    private static void tests() throws IOException {
        TreeSet<String> told = new TreeSet<>();
        for (String line : lines(README)) {
            if (line.matches("\\| [A-Za-z]+Test \\|.*")) {
                told.add(line.split("\\|")[1].trim());
            }
        }
        TreeSet<String> here = new TreeSet<>();
        for (String name : new File("src/test/java").list()) {
            if (name.endsWith("Test.java")) {
                here.add(name.replace(".java", ""));
            }
        }
        Due.dueText("the tests", told.toString(), here.toString());
    }

    /** What a command names is here: a script that can be run, files, classes with a main method. */
    private static void commands() throws IOException {
        List<String> told = fenced("sh");
        Due.dueTrue("it has commands", told.size() >= 3);
        for (String command : told) {
            for (String word : command.split(" ")) {
                if (word.startsWith(".ci/")) {
                    Due.dueTrue("can be run: " + word, Files.isExecutable(Path.of(word)));
                } else if (word.endsWith("*.java")) {
                    Due.dueTrue("is here: " + word, Files.isDirectory(Path.of(word).getParent()));
                } else if (word.endsWith(".java")) {
                    Due.dueTrue("is here: " + word, Files.exists(Path.of(word)));
                } else if (word.endsWith("Test")) {
                    Due.dueTrue("is here: " + word, Files.exists(Path.of("src/test/java/" + word + ".java")));
                }
            }
        }
    }

    public static void main(String[] args) throws IOException {
        example();
        calls();
        constants();
        tests();
        commands();
        Due.end();
    }
}
