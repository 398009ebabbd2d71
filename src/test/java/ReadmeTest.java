import java.io.IOException;
import java.lang.reflect.Method;
import java.nio.file.Files;
import java.nio.file.Path;
import java.util.TreeSet;
import java.util.regex.Matcher;
import java.util.regex.Pattern;
import java.util.stream.Collectors;
import java.util.stream.Stream;

/** README.md is true: each call that it shows answers as it says there, and it names the tests as they stand. */
final class ReadmeTest {
    private static final Pattern BLOCK = Pattern.compile("(?s)```java\n(.*?)```");
    private static final Pattern SHOWN = Pattern.compile("train\\.(\\w+)\\(([^)]*)\\); +// (-?\\d+|[A-Z]+)(: .*)?");
    private static final String MADE = "GhostTrain train = new GhostTrain();";
    private static final int CALLS_OF_AN_OBJECT = 512;

    public static void main(String[] args) throws IOException, ReflectiveOperationException {
        String readme = Files.readString(Path.of("README.md"));
        callsAnswerAsShown(readme);
        testsAreNamed(readme);
        classesAreNamed(readme);
        shellLinesAreTrue(readme);
        Due.end();
    }

    private static void callsAnswerAsShown(String readme) throws ReflectiveOperationException {
        GhostTrain train = null;
        int calls = 0;
        Matcher blocks = BLOCK.matcher(readme);
        while (blocks.find()) {
            for (String line : blocks.group(1).split("\n")) {
                Matcher shown = SHOWN.matcher(line);
                if (line.equals(MADE)) {
                    train = new GhostTrain();
                } else if (shown.matches() && train != null) {
                    calls++;
                    Due.is("README.md", line, answer(train, shown.group(1), shown.group(2)), number(shown.group(3)));
                } else {
                    Due.holds("README.md shows what is no call with its answer: " + line, false);
                }
            }
        }
        Due.holds("README.md shows " + calls + " calls", calls > 0 && calls <= CALLS_OF_AN_OBJECT);
    }

    private static int answer(GhostTrain train, String name, String told) throws ReflectiveOperationException {
        String[] numbers = told.isEmpty() ? new String[0] : told.split(", ");
        Object[] arguments = new Object[numbers.length];
        Class<?>[] types = new Class<?>[numbers.length];
        for (int i = 0; i < numbers.length; i++) {
            arguments[i] = number(numbers[i].replace("GhostTrain.", ""));
            types[i] = int.class;
        }
        Method method = GhostTrain.class.getMethod(name, types);
        return (int) method.invoke(train, arguments);
    }

    private static int number(String told) throws ReflectiveOperationException {
        return Character.isUpperCase(told.charAt(0)) ? GhostTrain.class.getField(told).getInt(null) : Integer.decode(told);
    }

    private static void testsAreNamed(String readme) throws IOException {
        TreeSet<String> named = new TreeSet<>();
        Matcher names = Pattern.compile("`(\\w+Test)`").matcher(readme);
        while (names.find()) {
            named.add(names.group(1));
        }
        try (Stream<Path> files = Files.list(Path.of("src/test/java"))) {
            TreeSet<String> there = files.map(file -> file.getFileName().toString()).filter(name -> name.endsWith("Test.java"))
                    .map(name -> name.replace(".java", "")).collect(Collectors.toCollection(TreeSet::new));
            Due.holds("README.md names " + named + ", there are " + there, named.equals(there));
        }
    }

    private static void classesAreNamed(String readme) {
        for (Class<?> inside : GhostTrain.class.getDeclaredClasses()) {
            boolean isKind = inside.getSimpleName().endsWith("Kind");
            String name = isKind ? "CarKind" : inside.getSimpleName();
            Due.holds("README.md does not name " + name, readme.contains("`" + name + "`"));
        }
    }

    private static void shellLinesAreTrue(String readme) throws IOException {
        Due.holds("README.md names .ci/run, which can be run",
                readme.contains("`.ci/run`") && Files.isExecutable(Path.of(".ci/run")));
        String script = Files.readString(Path.of(".ci/run"));
        for (String ran : new String[] {"src/main/java/GhostTrain.java", "src/test/java/*Test.java", "../shared/tests/*.java"}) {
            Due.holds(".ci/run does not run " + ran, script.contains(ran));
        }
        for (String word : readme.split("[\\s`]+")) {
            if (word.matches("(\\.\\./shared|src)/[\\w/.]+\\w")) {
                Due.holds("README.md names what is not there: " + word, Files.exists(Path.of(word)));
            }
        }
    }
}
