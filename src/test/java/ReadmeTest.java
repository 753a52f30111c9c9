import java.io.IOException;
import java.nio.file.Files;
import java.nio.file.Path;
import java.util.List;
import java.util.regex.Matcher;
import java.util.regex.Pattern;

/** The example of README.md: each call with a comment answers what the comment begins with. */
public final class ReadmeTest {
    private static final Pattern WRITE = Pattern.compile("for \\(char c : \"(.*)\"\\.toCharArray\\(\\)\\) desk\\.write\\(c\\);");
    private static final Pattern CALL = Pattern.compile("desk\\.(\\w+)\\((\\d*)\\); +// (-?\\w+): .*");

    public static void main(String[] args) throws IOException, ReflectiveOperationException {
        Desk.about("README.md");
        List<String> text = Files.readAllLines(Path.of("README.md"));
        int first = text.indexOf("```java") + 1;
        int end = first + text.subList(first, text.size()).indexOf("```");
        Desk.due("the first line of the example is '" + text.get(first) + "': that",
                text.get(first).equals("RealmDesk desk = new RealmDesk();") ? 1 : 0, 1);
        RealmDesk desk = new RealmDesk();
        int calls = 0;
        for (String step : text.subList(first + 1, end)) {
            calls += follow(desk, step);
        }
        Desk.due("whether the example has calls: that", calls > 0 ? 1 : 0, 1);
        Desk.end();
    }

    /** How many answers the step has told. */
    private static int follow(RealmDesk desk, String step) throws ReflectiveOperationException {
        Matcher write = WRITE.matcher(step);
        if (write.matches()) {
            for (char c : write.group(1).toCharArray()) {
                Desk.due("write(" + c + ")", desk.write(c) ? 1 : 0, 1);
            }
            return 0;
        }
        Matcher call = CALL.matcher(step);
        boolean known = call.matches();
        Desk.due("whether '" + step + "' is a write or a call with its answer: that", known ? 1 : 0, 1);
        if (!known) {
            return 0;
        }
        String got = answer(desk, call.group(1), call.group(2));
        Desk.due("whether '" + step + "' answers that (it is " + got + "): that", got.equals(call.group(3)) ? 1 : 0, 1);
        return 1;
    }

    private static String answer(RealmDesk desk, String method, String argument) throws ReflectiveOperationException {
        if (argument.isEmpty()) {
            return String.valueOf(RealmDesk.class.getMethod(method).invoke(desk));
        }
        return String.valueOf(RealmDesk.class.getMethod(method, int.class).invoke(desk, Integer.parseInt(argument)));
    }
}
