import java.lang.reflect.Method;
import java.nio.file.Files;
import java.nio.file.Path;
import java.util.regex.Matcher;
import java.util.regex.Pattern;
import java.util.stream.Stream;

/** README.md tells what is so: its examples are run as they stand there; run from the project's root. */
public final class ReadmeTest {
    private static final Pattern BLOCK = Pattern.compile("(?s)```java\n(.*?)```");
    private static final Pattern MAKE = Pattern.compile("YesterStreet s = new YesterStreet\\(\\);");
    private static final Pattern FEED = Pattern.compile("for \\(char c : \"([^\"]*)\"\\.toCharArray\\(\\)\\) s\\.feed\\(c\\);");
    private static final Pattern CALL = Pattern.compile("s\\.(\\w+)\\(([^)]*)\\);\\s*// (-?\\d+)(?:: (BAD|STATE|FULL|NONE)?.*)?");
    private static int wrong = 0, answers = 0;

    private static void check(boolean right, String what) {
        if (!right) {
            wrong++;
            System.out.println("ReadmeTest: " + what);
        }
    }

    public static void main(String[] args) throws Exception {
        String page = Files.readString(Path.of("README.md"));
        Matcher blocks = BLOCK.matcher(page);
        while (blocks.find()) example(blocks.group(1));
        check(answers >= 20, "only " + answers + " answers are shown");
        fourAnswers(page);
        check(page.contains("\n    .ci/run\n"), "the command for the tests is not told");
        try (Stream<Path> files = Files.list(Path.of("src/test/java"))) {
            files.map(f -> f.getFileName().toString().replace(".java", ""))
                .forEach(f -> check(page.contains("`" + f + "`"), f + " is not told"));
        }
        System.out.println("ReadmeTest: " + answers + " answers, " + wrong + " wrong");
        if (wrong != 0) System.exit(1);
    }

    private static void example(String code) throws Exception {
        YesterStreet s = null;
        for (String line : code.split("\n")) {
            Matcher feed = FEED.matcher(line), call = CALL.matcher(line);
            if (MAKE.matcher(line).matches()) {
                s = new YesterStreet();
            } else if (s != null && feed.matches()) {
                for (char c : feed.group(1).toCharArray()) s.feed(c);
            } else if (s != null && call.matches()) {
                answer(s, line, call);
            } else {
                check(false, "can not be followed: " + line);
            }
        }
    }

    private static void answer(YesterStreet s, String line, Matcher call) throws Exception {
        answers++;
        long want = Long.parseLong(call.group(3));
        long got = ask(s, call.group(1), call.group(2).isEmpty() ? new String[0] : call.group(2).split(", "));
        check(got == want, line + " answered " + got);
        if (call.group(4) != null) check(constant(call.group(4)) == want, line + " has another constant's name");
    }

    private static long ask(YesterStreet s, String name, String[] told) throws Exception {
        for (Method m : YesterStreet.class.getDeclaredMethods()) {
            if (!m.getName().equals(name) || m.getParameterCount() != told.length) continue;
            Object[] given = new Object[told.length];
            for (int i = 0; i < told.length; i++) {
                given[i] = m.getParameterTypes()[i] == boolean.class ? (Object) Boolean.valueOf(told[i]) : (Object) Integer.valueOf(told[i]);
            }
            return ((Number) m.invoke(s, given)).longValue();
        }
        throw new IllegalStateException("there is no call " + name + " of " + told.length);
    }

    private static int constant(String name) throws Exception {
        return YesterStreet.class.getField(name).getInt(null);
    }

    /** Each has a row of the table: its name, its number, what it means. */
    private static void fourAnswers(String page) throws Exception {
        for (String name : new String[] {"BAD", "STATE", "FULL", "NONE"}) {
            Pattern row = Pattern.compile("\n\\| `" + name + "` \\| " + constant(name) + " \\| \\w[^|\n]{20,} \\|\n");
            check(row.matcher(page.replace("\n", "\n\n")).find(), "what " + name + " means is not told");
        }
    }
}
