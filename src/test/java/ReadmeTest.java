import java.io.IOException;
import java.lang.reflect.Field;
import java.lang.reflect.Method;
import java.lang.reflect.Modifier;
import java.nio.charset.StandardCharsets;
import java.nio.file.Files;
import java.nio.file.Path;
import java.util.List;
import java.util.Map;
import java.util.Set;
import java.util.TreeMap;
import java.util.TreeSet;
import java.util.regex.Matcher;
import java.util.regex.Pattern;

/** What README.md says of the class is true of it as it stands. */
public final class ReadmeTest {
    private static final Path README = Path.of("README.md");
    private static final Pattern CALL = Pattern.compile("recorder\\.(\\w+)\\(([-\\d, ]*)\\); +// (-?\\d+)\\b.*");
    private static final Pattern TYPED = Pattern.compile("for \\(char sign : \"(.*)\"\\.toCharArray\\(\\)\\) \\{");
    private static final Pattern CONSTANT = Pattern.compile("\\| `([A-Z_]+)` \\| (-\\d+) \\| .* \\|");
    private static final Pattern CALL_ROW = Pattern.compile("\\| `(\\w+)\\(([\\w, ]*)\\)` \\| .* \\| .* \\| .* \\|");
    private static final Pattern SETTING = Pattern.compile("\\| (\\d) \\| [^|]* \\| (\\d+) to (\\d+) \\| (\\d+) \\|");
    private static final Pattern NAMED_TEST = Pattern.compile("`(\\w+Test)`");

    public static void main(String[] args) throws IOException, IllegalAccessException {
        List<String> lines = Files.readAllLines(README, StandardCharsets.UTF_8);
        playExample(lines);
        constants(lines);
        calls(lines);
        settings(lines);
        tests(lines);
        Script.end();
    }

    private static void playExample(List<String> lines) {
        int begin = lines.indexOf("```java") + 1;
        int end = begin + lines.subList(begin, lines.size()).indexOf("```");
        RainRecorder recorder = new RainRecorder();
        Set<String> played = new TreeSet<>();
        for (String line : lines.subList(begin, end)) {
            Matcher call = CALL.matcher(line);
            Matcher typed = TYPED.matcher(line);
            if (call.matches()) {
                Script.play("the example of README.md", recorder, "%s %s = %s".formatted(
                        call.group(1), call.group(2).replace(",", " "), call.group(3)));
                played.add(call.group(1));
            } else if (typed.matches()) {
                Script.write(recorder, typed.group(1));
            } else {
                Script.due("a line without a call: " + line, List.of("RainRecorder recorder = new RainRecorder();",
                        "    recorder.type(sign);", "}").contains(line) ? 1 : 0, 1);
            }
        }
        Script.due("several calls in the example", played.size() > 5 ? 1 : 0, 1);
    }

    private static void constants(List<String> lines) throws IllegalAccessException {
        Map<String, String> told = new TreeMap<>();
        for (String line : lines) {
            Matcher constant = CONSTANT.matcher(line);
            if (constant.matches()) {
                told.put(constant.group(1), constant.group(2));
            }
        }
        Map<String, String> stand = new TreeMap<>();
        for (Field field : RainRecorder.class.getFields()) {
            stand.put(field.getName(), String.valueOf(field.get(null)));
        }
        same("the constants", told.toString(), stand.toString());
    }

    private static void calls(List<String> lines) {
        Set<String> told = new TreeSet<>();
        for (String line : lines) {
            Matcher row = CALL_ROW.matcher(line);
            if (row.matches()) {
                told.add(row.group(1) + "/" + (row.group(2).isEmpty() ? 0 : row.group(2).split(",").length));
            }
        }
        Set<String> stand = new TreeSet<>();
        for (Method method : RainRecorder.class.getDeclaredMethods()) {
            if (Modifier.isPublic(method.getModifiers())) {
                stand.add(method.getName() + "/" + method.getParameterCount());
            }
        }
        same("the calls", told.toString(), stand.toString());
    }

    private static void settings(List<String> lines) {
        int settings = 0;
        for (String line : lines) {
            Matcher row = SETTING.matcher(line);
            if (row.matches()) {
                setting(Integer.parseInt(row.group(1)), Integer.parseInt(row.group(2)), Integer.parseInt(row.group(3)),
                        Integer.parseInt(row.group(4)));
                settings++;
            }
        }
        Script.due("settings in README.md", settings, 8);
    }

    private static void setting(int what, int least, int greatest, int first) {
        RainRecorder recorder = new RainRecorder();
        String name = "setting " + what + " of README.md";
        Script.due(name + ", below its range", recorder.set(what, least - 1), RainRecorder.INVALID_ARGUMENT);
        Script.due(name + ", above its range", recorder.set(what, greatest + 1), RainRecorder.INVALID_ARGUMENT);
        Script.due(name + ", its first value", recorder.set(what, least), first);
        Script.due(name + ", its least value", recorder.set(what, greatest), least);
        Script.due(name + ", its greatest value", recorder.count(20 + what), greatest);
    }

    /** Each test of the project is named, and each that is named is there. */
    private static void tests(List<String> lines) throws IOException {
        Set<String> told = new TreeSet<>();
        for (String line : lines) {
            Matcher named = NAMED_TEST.matcher(line);
            while (named.find()) {
                told.add(named.group(1));
            }
        }
        Set<String> stand = new TreeSet<>();
        try (var files = Files.newDirectoryStream(Path.of("src/test/java"), "*Test.java")) {
            files.forEach(file -> stand.add(file.getFileName().toString().replace(".java", "")));
        }
        same("the tests", told.toString(), stand.toString());
    }

    private static void same(String what, String told, String stands) {
        if (!told.equals(stands)) {
            System.out.println(what + " of README.md are " + told + ", but there stand " + stands);
        }
        Script.due(what + " of README.md as they stand", told.equals(stands) ? 1 : 0, 1);
    }
}
