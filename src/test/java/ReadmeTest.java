import java.io.File;
import java.io.IOException;
import java.lang.reflect.Method;
import java.lang.reflect.Modifier;
import java.net.URL;
import java.net.URLClassLoader;
import java.nio.file.Files;
import java.nio.file.Path;
import java.util.ArrayList;
import java.util.List;
import java.util.Map;
import java.util.function.Supplier;
import java.util.regex.Matcher;
import java.util.regex.Pattern;
import javax.tools.ToolProvider;

/** What README.md shows as an example compiles as it stands and answers as it says; calls and tests are named there. */
public final class ReadmeTest {
    private static final Due due = new Due();
    private static final Path FOLDER = Path.of("build", "readme");
    private static final String START = "RockRoad road = new RockRoad();";
    private static final Pattern BLOCK = Pattern.compile("```java\n(.*?)```", Pattern.DOTALL);
    private static final Pattern LINE =
        Pattern.compile("(?:int (\\w+) = )?(road\\.\\w+\\([^()]*\\)); +// (-?\\d+|[A-Z]+)(?:: .*)?");
    private static final Map<String, Long> NAMES = Map.of("BAD", (long) RockRoad.BAD, "STATE", (long) RockRoad.STATE,
        "FULL", (long) RockRoad.FULL, "NONE", (long) RockRoad.NONE);

    public static void main(String[] args) throws Exception {
        String readme = Files.readString(Path.of("README.md"));
        examples(readme);
        stories(readme);
        calls(readme);
        constants(readme);
        tests(readme);
        due.end();
    }

    private static void examples(String readme) throws Exception {
        Matcher block = BLOCK.matcher(readme);
        int found = 0;
        while (block.find()) {
            found++;
            example("ReadmeExample" + found, block.group(1).lines().toList());
        }
        due.topic("README.md");
        due.holds("whether it has examples", found > 0);
    }

    private static void example(String name, List<String> lines) throws Exception {
        due.topic("README.md, " + name);
        due.holds("whether a new object is its first line", lines.get(0).equals(START));
        List<Matcher> shown = new ArrayList<>();
        for (String line : lines.subList(1, lines.size())) {
            Matcher matcher = LINE.matcher(line);
            boolean told = matcher.matches();
            due.holds("whether this tells an answer: " + line, told);
            if (told) {
                shown.add(matcher);
            }
        }
        List<Long> answers = run(name, source(name, shown));
        for (int i = 0; i < answers.size(); i++) {
            due.is(shown.get(i).group(), answers.get(i), number(shown.get(i).group(3)));
        }
    }

    private static long number(String told) {
        return NAMES.containsKey(told) ? NAMES.get(told) : Long.parseLong(told);
    }

    private static String source(String name, List<Matcher> shown) {
        StringBuilder text = new StringBuilder("import java.util.List;\npublic final class ").append(name);
        text.append(" implements java.util.function.Supplier<List<Long>> {\npublic List<Long> get() {\n");
        text.append("List<Long> answers = new java.util.ArrayList<>();\n").append(START).append('\n');
        for (Matcher line : shown) {
            String value = line.group(2);
            if (line.group(1) != null) {
                text.append("int ").append(line.group(1)).append(" = ").append(value).append(";\n");
                value = line.group(1);
            }
            text.append("answers.add((long) ").append(value).append(");\n");
        }
        return text.append("return answers;\n}\n}\n").toString();
    }

    private static List<Long> run(String name, String source) throws Exception {
        Files.createDirectories(FOLDER);
        Path file = Files.writeString(FOLDER.resolve(name + ".java"), source);
        int code = ToolProvider.getSystemJavaCompiler().run(null, null, null, "-cp",
            System.getProperty("java.class.path"), "-d", FOLDER.toString(), file.toString());
        due.is("the compiler", code, 0);
        if (code != 0) {
            return List.of();
        }
        try (URLClassLoader loader = new URLClassLoader(new URL[] {FOLDER.toUri().toURL()})) {
            Object example = loader.loadClass(name).getConstructor().newInstance();
            List<Long> answers = new ArrayList<>();
            for (Object answer : (List<?>) ((Supplier<?>) example).get()) {
                answers.add((Long) answer);
            }
            return answers;
        }
    }

    private static void stories(String readme) {
        due.topic("README.md, a story");
        Matcher story = Pattern.compile("`\"([^`]*)\"`").matcher(readme);
        while (story.find()) {
            Story.of(story.group(1)).checkBy(due);
        }
    }

    private static void calls(String readme) {
        due.topic("README.md, All calls");
        for (Method method : RockRoad.class.getDeclaredMethods()) {
            if (Modifier.isPublic(method.getModifiers())) {
                String commas = ", \\w+".repeat(Math.max(0, method.getParameterCount() - 1));
                String row = "(?m)^\\| `" + method.getName() + "\\(" + (method.getParameterCount() > 0 ? "\\w+" : "")
                    + commas + "\\)` \\|";
                due.holds("whether there is a row of " + method.getName(), Pattern.compile(row).matcher(readme).find());
            }
        }
    }

    private static void constants(String readme) {
        due.topic("README.md, the constants");
        due.holds("whether they are told as they are", readme.contains("`BAD` is " + RockRoad.BAD + ", `STATE` "
            + RockRoad.STATE + ", `FULL` " + RockRoad.FULL + " and `NONE` " + RockRoad.NONE + "."));
    }

    private static void tests(String readme) throws IOException {
        due.topic("README.md, Tests");
        due.holds("whether .ci/run can be run", readme.contains("\n    .ci/run\n") && new File(".ci/run").canExecute());
        Path folder = Path.of("src", "test", "java");
        try (var files = Files.list(folder)) {
            for (Path file : files.toList()) {
                String name = file.getFileName().toString().replace(".java", "");
                due.holds("whether " + name + " is named", readme.contains("`" + name + "`"));
            }
        }
        Matcher named = Pattern.compile("`(\\w+Test)`").matcher(readme);
        while (named.find()) {
            due.holds("whether there is a " + named.group(1), Files.exists(folder.resolve(named.group(1) + ".java")));
        }
    }
}
