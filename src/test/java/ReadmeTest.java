import java.io.IOException;
import java.lang.reflect.Method;
import java.lang.reflect.Modifier;
import java.nio.file.Files;
import java.nio.file.Path;
import java.util.ArrayList;
import java.util.Comparator;
import java.util.List;
import java.util.Set;
import java.util.TreeSet;
import java.util.regex.Matcher;
import java.util.regex.Pattern;
import java.util.stream.Stream;

/**
 * Does what README.md says, word by word, in a copy of the project: its example and its commands print what stands
 * there, and each call of its blocks has the answer behind it, from the class and from the model of the document.
 */
public final class ReadmeTest {

    private static final Pattern BLOCK = Pattern.compile("(?s)```(\\w+)\n(.*?)```\n");
    private static final Pattern ANSWERED = Pattern.compile("(house\\..*\\));\\s+// (.+)");

    private static int wrong = 0;
    private static final Set<String> answered = new TreeSet<>();

    public static void main(String[] args) throws Exception {
        String page = Files.readString(Path.of("README.md"));
        Path place = Files.createTempDirectory("readme");
        try {
            copyProject(place);
            checkBlocks(page, place);
        } finally {
            remove(place);
        }
        checkCalls();
        checkTestsAreNamed(page);
        System.out.println(wrong == 0 ? "the README holds" : wrong + " faults of the README");
        if (wrong != 0) {
            System.exit(1);
        }
    }

    private static void fault(String text) {
        wrong++;
        System.out.println("README: " + text);
    }

    private static void copyProject(Path place) throws IOException {
        try (Stream<Path> all = Files.walk(Path.of("src"))) {
            for (Path from : all.toList()) {
                Path to = place.resolve(from.toString());
                if (Files.isDirectory(from)) {
                    Files.createDirectories(to);
                } else {
                    Files.write(to, Files.readAllBytes(from));
                }
            }
        }
    }

    private static void remove(Path place) throws IOException {
        try (Stream<Path> all = Files.walk(place)) {
            for (Path path : all.sorted(Comparator.reverseOrder()).toList()) {
                Files.delete(path);
            }
        }
    }

    private static void checkBlocks(String page, Path place) throws Exception {
        List<String> houses = new ArrayList<>();
        String printed = "";
        Matcher block = BLOCK.matcher(page);
        while (block.find()) {
            String text = block.group(2);
            switch (block.group(1)) {
                case "java" -> {
                    if (text.contains("class Example")) {
                        Files.writeString(place.resolve("Example.java"), text);
                    } else {
                        houses.add(text);
                    }
                }
                case "sh" -> printed = text.equals(".ci/run\n") ? needScript() : run(text, place);
                case "text" -> {
                    if (!printed.equals(text)) {
                        fault("printed is " + printed + "due is " + text);
                    }
                }
                default -> fault("a block of unknown kind: " + block.group(1));
            }
        }
        for (String type : List.of("Clockhouse", "Model")) {
            checkHouses(houses, type, place);
        }
    }

    /** The script runs this test, so this test does not run it. */
    private static String needScript() {
        if (!Files.isExecutable(Path.of(".ci/run"))) {
            fault(".ci/run can't be run");
        }
        return "";
    }

    private static String run(String commands, Path place) throws Exception {
        Process process = new ProcessBuilder("sh", "-e", "-c", commands).directory(place.toFile())
                .redirectErrorStream(true).start();
        String printed = new String(process.getInputStream().readAllBytes());
        if (process.waitFor() != 0) {
            fault(commands + "fails: " + printed);
        }
        return printed;
    }

    /** Writes the blocks as one program that prints every call whose answer is another one, and runs it. */
    private static void checkHouses(List<String> houses, String type, Path place) throws Exception {
        StringBuilder program = new StringBuilder("final class Calls {\n"
                + "    interface Call { Object make(); }\n"
                + "    static void see(String line, String due, Call call) {\n"
                + "        String got;\n"
                + "        try {\n"
                + "            Object told = call.make();\n"
                + "            got = told instanceof String ? \"\\\"\" + told + \"\\\"\" : String.valueOf(told);\n"
                + "        } catch (RuntimeException e) {\n"
                + "            got = \"throws \" + e.getClass().getSimpleName();\n"
                + "        }\n"
                + "        if (!got.equals(due)) {\n"
                + "            System.out.println(line + \" is answered \" + got);\n"
                + "        }\n"
                + "    }\n"
                + "    public static void main(String[] args) {\n");
        for (String house : houses) {
            program.append("        {\n");
            for (String line : house.split("\n")) {
                program.append("            ").append(statement(line.replace("Clockhouse", type))).append('\n');
            }
            program.append("        }\n");
        }
        Files.writeString(place.resolve("Calls.java"), program.append("    }\n}\n"));
        String printed = run("javac -d out -sourcepath src/main/java:src/test/helper Calls.java\njava -cp out Calls\n",
                place);
        if (!printed.isEmpty()) {
            fault("as " + type + ": " + printed);
        }
    }

    private static String statement(String line) {
        Matcher call = ANSWERED.matcher(line);
        if (!call.matches()) {
            return line;
        }
        answered.add(call.group(1).replaceAll("house\\.(\\w+)\\(.*", "$1"));
        return "see(" + quoted(line) + ", " + quoted(call.group(2)) + ", () -> " + call.group(1) + ");";
    }

    private static String quoted(String text) {
        return "\"" + text.replace("\\", "\\\\").replace("\"", "\\\"") + "\"";
    }

    /** Each call of the face stands there at least once with an answer. */
    private static void checkCalls() {
        for (Method m : Clockhouse.class.getDeclaredMethods()) {
            if (Modifier.isPublic(m.getModifiers()) && !answered.contains(m.getName())) {
                fault("no answer of " + m.getName());
            }
        }
    }

    private static void checkTestsAreNamed(String page) throws IOException {
        for (String folder : List.of("src/test/java", "src/test/helper")) {
            try (Stream<Path> files = Files.list(Path.of(folder))) {
                for (Path file : files.toList()) {
                    String name = file.getFileName().toString().replace(".java", "");
                    if (!page.contains("`" + name + "`")) {
                        fault("does not name " + name);
                    }
                }
            }
        }
        Matcher named = Pattern.compile("`(\\w+Test)`").matcher(page);
        while (named.find()) {
            if (!Files.exists(Path.of("src/test/java/" + named.group(1) + ".java"))) {
                fault("names a test that is not there: " + named.group(1));
            }
        }
    }
}
