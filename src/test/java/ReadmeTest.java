import java.io.IOException;
import java.lang.reflect.Method;
import java.lang.reflect.Modifier;
import java.nio.charset.StandardCharsets;
import java.nio.file.Files;
import java.nio.file.Path;
import java.util.ArrayList;
import java.util.Comparator;
import java.util.List;
import java.util.Set;
import java.util.TreeSet;
import java.util.regex.Matcher;
import java.util.regex.Pattern;
import java.util.stream.Collectors;
import java.util.stream.Stream;

/** What README.md says holds: its programs, the answers it gives to calls, its commands, its table of calls. */
public final class ReadmeTest {
    private static final Path README = Path.of("README.md");
    private static final Path DOCUMENT = Path.of("../shared/DOC.md");
    private static final Path MAIN = Path.of("src/main/java/KeysForSecond.java");
    private static final Pattern BLOCK = Pattern.compile("```(\\w+)\n(.*?)```", Pattern.DOTALL);
    private static final Pattern ANSWER = Pattern.compile("(\\S.*);\\s+// (-?\\d+): .*");
    private static final Pattern ROW = Pattern.compile("\\| `(\\w+)\\((.*?)\\)` \\|[^|]*\\|([^|]*)\\|");
    private static final Pattern REFUSAL = Pattern.compile("\\b(?:BAD|FULL|STATE|NO)\\b|-(?:1000|100|5|7|11|12|13|14)\\b");
    private static final Pattern CALL = Pattern.compile("(?:int|long) (\\w+)\\((.*)\\)");
    private static final int PROMISES = 39;

    private static int checks = 0;
    private static int wrong = 0;

    private static void holds(boolean so, String what) {
        checks++;
        if (!so) {
            wrong++;
            System.out.println("README.md: " + what);
        }
    }

    public static void main(String[] args) throws IOException, InterruptedException {
        String readme = Files.readString(README);
        String document = Files.readString(DOCUMENT);
        Path folder = Files.createTempDirectory("readme");
        try {
            Files.copy(MAIN, folder.resolve("KeysForSecond.java"));
            program(blocks(readme, "java").get(0), blocks(readme, "sh").get(0), blocks(readme, "text").get(0), folder);
            answers(blocks(readme, "java").subList(1, blocks(readme, "java").size()), folder);
            oneTestAlone(blocks(readme, "sh"), folder);
        } finally {
            remove(folder);
        }
        table(readme, document);
        constants(readme);
        testsAreTold(readme);
        System.out.println(checks + " checks, " + wrong + " wrong");
        if (wrong != 0) {
            System.exit(1);
        }
    }

    private static List<String> blocks(String readme, String language) {
        return BLOCK.matcher(readme).results().filter(m -> m.group(1).equals(language)).map(m -> m.group(2)).toList();
    }

    /** The program compiles by the very commands beside the class alone and prints what the page says. */
    private static void program(String program, String commands, String printed, Path folder)
            throws IOException, InterruptedException {
        Matcher name = Pattern.compile("public final class (\\w+)").matcher(program);
        holds(name.find(), "the first program is no class");
        Files.writeString(folder.resolve(name.group(1) + ".java"), program);
        String out = "";
        for (String command : commands.strip().split("\n")) {
            out = run(folder, command.split(" "));
        }
        holds(out.equals(printed), "the program prints\n" + out + "and not\n" + printed);
    }

    /** Each call with an answer behind it is made, in their order, in one program. */
    private static void answers(List<String> snippets, Path folder) throws IOException, InterruptedException {
        StringBuilder program = new StringBuilder("class Answers {\n"
            + "    static void due(String call, long got, long want) {\n"
            + "        if (got != want) { System.out.println(call + \" answers \" + got + \", not \" + want); }\n    }\n"
            + "    public static void main(String[] args) {\n");
        int many = 0;
        for (String line : String.join("", snippets).split("\n")) {
            Matcher answer = ANSWER.matcher(line);
            if (answer.matches()) {
                many++;
                String call = answer.group(1);
                program.append("due(\"").append(call.replace("\"", "\\\"")).append("\", ").append(call).append(", ")
                    .append(answer.group(2)).append("L);\n");
            } else {
                program.append(line).append("\n");
            }
        }
        Files.writeString(folder.resolve("Answers.java"), program.append("    }\n}\n"));
        run(folder, "javac", "KeysForSecond.java", "Answers.java");
        String out = run(folder, "java", "Answers");
        holds(out.isEmpty(), "answers:\n" + out);
        holds(many > 30, "only " + many + " answers");
    }

    private static void oneTestAlone(List<String> commands, Path folder) throws IOException, InterruptedException {
        holds(commands.get(1).strip().equals(".ci/run") && Files.isExecutable(Path.of(".ci/run")), "no .ci/run");
        String out = folder.resolve("out").toString();
        String printed = "";
        for (String command : commands.get(2).strip().split("\n")) {
            String[] words = command.split(" ");
            for (int i = 0; i < words.length; i++) {
                words[i] = words[i].equals("out") ? out : words[i];
            }
            printed = run(Path.of("."), words);
        }
        holds(printed.endsWith(" 0 wrong\n"), "one test alone printed " + printed);
    }

    private static String run(Path folder, String... command) throws IOException, InterruptedException {
        Process process = new ProcessBuilder(command).directory(folder.toFile()).redirectErrorStream(true).start();
        String out = new String(process.getInputStream().readAllBytes(), StandardCharsets.UTF_8);
        int code = process.waitFor();
        holds(code == 0, String.join(" ", command) + " ended with " + code + ":\n" + out);
        return out;
    }

    /** Each call of the document has its line, with its numbers' names and its refusals in their order. */
    private static void table(String readme, String document) {
        List<String> rows = new ArrayList<>();
        Matcher m = ROW.matcher(readme);
        while (m.find()) {
            rows.add(m.group(1) + "(" + m.group(2) + ") " + refusals(m.group(3)));
        }
        List<String> due = new ArrayList<>();
        for (int promise = 2; promise <= PROMISES; promise++) {
            int start = document.indexOf("## Promise " + promise + ":");
            int end = document.indexOf("## ", start + 3);
            String text = document.substring(start, end);
            Matcher call = CALL.matcher(text.split("`")[1]);
            holds(call.matches(), "promise " + promise + " tells no call");
            String numbers = call.group(2).replaceAll("(^|, )int ", "$1");
            due.add(call.group(1) + "(" + numbers + ") " + refusals(text.substring(text.indexOf('`', text.indexOf('`') + 1))));
        }
        for (int i = 0; i < Math.max(rows.size(), due.size()); i++) {
            String row = i < rows.size() ? rows.get(i) : "nothing";
            String call = i < due.size() ? due.get(i) : "nothing";
            holds(row.equals(call), "the table has " + row + ", the document " + call);
        }
    }

    /** FULL of text() is told behind the fault, as being ahead of it. */
    private static List<String> refusals(String text) {
        List<String> refusals = REFUSAL.matcher(text).results().map(r -> r.group()).collect(Collectors.toList());
        if (text.contains("FULL (ahead of")) {
            refusals.remove("FULL");
            refusals.add(0, "FULL");
        }
        return refusals;
    }

    private static void constants(String readme) {
        holds(readme.contains("`BAD`, " + KeysForSecond.BAD + " |"), "BAD");
        holds(readme.contains("`STATE`, " + KeysForSecond.STATE + " |"), "STATE");
        holds(readme.contains("`FULL`, " + KeysForSecond.FULL + " |"), "FULL");
        holds(readme.contains("`NO`, " + KeysForSecond.NO + " |"), "NO");
        holds(readme.contains(KeysForSecond.NONE + " (`NONE`) is an answer"), "NONE");
        Set<String> longs = new TreeSet<>();
        for (Method method : KeysForSecond.class.getDeclaredMethods()) {
            if (Modifier.isPublic(method.getModifiers()) && method.getReturnType() == long.class) {
                longs.add(method.getName());
            }
        }
        holds(longs.equals(Set.of("share", "odds")), "a long is answered by " + longs);
    }

    private static void testsAreTold(String readme) throws IOException {
        try (Stream<Path> files = Files.list(Path.of("src/test/java"))) {
            for (Path file : files.toList()) {
                String name = file.getFileName().toString();
                String brief = name.replaceAll("Boundary(Town|Minutes|Told|Days)Test", "Boundary{Town,Minutes,Told,Days}Test");
                holds(readme.contains("`src/test/java/" + brief + "`"), name + " is not told");
            }
        }
    }

    private static void remove(Path folder) throws IOException {
        try (Stream<Path> files = Files.walk(folder)) {
            for (Path file : files.sorted(Comparator.reverseOrder()).toList()) {
                Files.delete(file);
            }
        }
    }
}
