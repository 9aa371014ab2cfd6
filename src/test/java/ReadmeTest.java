import java.io.File;
import java.io.IOException;
import java.lang.reflect.Method;
import java.nio.file.Files;
import java.nio.file.Path;
import java.util.HashMap;
import java.util.Map;
import java.util.regex.Matcher;
import java.util.regex.Pattern;

/** What README.md says of the class: its lines of code are run, its numbers and the tests that it names looked up. */
public final class ReadmeTest {
    private static final Due due = new Due();
    private static final Pattern CALL = Pattern.compile("(?:int (\\w+) = )?house\\.(\\w+)\\((.*)\\);(.*)");
    private static final Pattern ANSWER = Pattern.compile(".*?(-?\\d+)");
    private static final Pattern ROW = Pattern.compile("\\| (-?\\d+) \\| (?:`(\\w+)`|fault (\\d), (\\w+)) \\|.*");
    private static final Map<String, Integer> numbers = new HashMap<>();
    private static final LentFiddles house = new LentFiddles();

    public static void main(String[] args) throws Exception {
        String text = Files.readString(Path.of("README.md"));
        int calls = 0;
        for (String line : text.split("\n")) {
            Matcher call = CALL.matcher(line);
            if (call.matches()) {
                calls++;
                run(line, call);
            }
        }
        due.is(0, "lines of code", calls, 13);
        table(text);
        faults(text);
        tests(text);
        due.end();
    }

    /** The answer that is due stands at the end of the line. */
    private static void run(String line, Matcher call) throws Exception {
        String[] told = call.group(3).isEmpty() ? new String[0] : call.group(3).split(", ");
        Object[] values = new Object[told.length];
        for (int i = 0; i < told.length; i++) {
            values[i] = numbers.containsKey(told[i]) ? numbers.get(told[i]) : Integer.valueOf(told[i]);
        }
        for (Method method : LentFiddles.class.getMethods()) {
            if (method.getName().equals(call.group(2))) {
                Integer got = (Integer) method.invoke(house, values);
                if (call.group(1) != null) {
                    numbers.put(call.group(1), got);
                }
                Matcher answer = ANSWER.matcher(call.group(4));
                if (call.group(4).contains("//") && !call.group(2).matches("sheet|put")) {
                    due.is(0, line, got, answer.matches() ? Integer.parseInt(answer.group(1)) : Due.LEAST);
                } else {
                    due.is(0, line, got, 1);
                }
            }
        }
    }

    private static void table(String text) throws Exception {
        int rows = 0;
        for (String line : text.split("\n")) {
            Matcher row = ROW.matcher(line);
            if (row.matches()) {
                rows++;
                int want = Integer.parseInt(row.group(1));
                if (row.group(2) != null) {
                    due.is(0, line, LentFiddles.class.getField(row.group(2)).getInt(null), want);
                } else {
                    due.is(0, line, Due.class.getDeclaredField(row.group(4)).getInt(null), want);
                    due.is(0, line, -10 - want, Integer.parseInt(row.group(3)));
                }
            }
        }
        due.is(0, "refusals and faults", rows, 8);
        due.is(0, "LOST", text.contains("| `Long.MIN_VALUE` | `LOST` |") && LentFiddles.LOST == Long.MIN_VALUE ? 1 : 0, 1);
        due.is(0, "NONE", text.contains("`NONE` (-9)") && LentFiddles.NONE == -9 ? 1 : 0, 1);
    }

    /** The calls that are said to have come to a fault are those whose promises name one. */
    private static void faults(String text) throws IOException {
        String list = text.substring(text.indexOf("that could have come to one:"), text.indexOf("all others leave it"));
        String document = Files.readString(Path.of("../shared/DOC.md"));
        Matcher promise = Pattern.compile("## Promise (\\d+): (\\w+)\n\n(.*)\n").matcher(document);
        int promises = 0;
        while (promise.find()) {
            promises++;
            boolean names = promise.group(3).matches(".*\\b(FAULTS|NULL|CAST|INDEX|SIZE)\\b.*");
            due.is(49, promise.group(2), list.contains("`" + promise.group(2) + "`") ? 1 : 0, names ? 1 : 0);
        }
        due.is(49, "promises with a call", promises, 49);
    }

    private static void tests(String text) {
        String[] files = new File("src/test/java").list();
        int there = files == null ? 0 : files.length;
        for (int n = 0; n < there; n++) {
            String name = files[n].replace(".java", "");
            due.is(0, "README.md names " + name, text.contains("`" + name + "`") ? 1 : 0, 1);
        }
        Matcher named = Pattern.compile("`(\\w+Test)`").matcher(text);
        while (named.find()) {
            due.is(0, named.group(1) + " is there", new File("src/test/java/" + named.group(1) + ".java").exists() ? 1 : 0, 1);
        }
    }
}
