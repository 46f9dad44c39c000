import java.io.IOException;
import java.lang.reflect.InvocationTargetException;
import java.lang.reflect.Method;
import java.lang.reflect.Modifier;
import java.nio.charset.StandardCharsets;
import java.nio.file.Files;
import java.nio.file.Path;
import java.util.ArrayList;
import java.util.HashSet;
import java.util.List;
import java.util.Set;
import java.util.regex.Matcher;
import java.util.regex.Pattern;

/** All promises as README.md tells them: each call has its row, and the example and the run of calls hold. */
public final class ReadmeTest {
    private static final Path README = Path.of("README.md");
    private static final Path THIS = Path.of("src/test/java/ReadmeTest.java");
    private static final Pattern RUN_ROW = Pattern.compile("(\\w+)\\(([^)]*)\\) = (\\S+)(\\s.*)?");
    private static final int MOST_CALLS = 512;

    private static final Set<String> ANSWERED = new HashSet<>();
    private static final Set<String> REFUSED = new HashSet<>();

    public static void main(String[] args) throws IOException {
        List<String> page = Files.readAllLines(README, StandardCharsets.UTF_8);
        eachCallHasItsRow(page);
        example();
        exampleIsThePages(page);
        runOfCalls(page);
        Check.end();
    }

    private static List<Method> face() {
        List<Method> open = new ArrayList<>();
        for (Method m : StoneHall.class.getDeclaredMethods()) {
            if (Modifier.isPublic(m.getModifiers())) {
                open.add(m);
            }
        }
        return open;
    }

    private static void eachCallHasItsRow(List<String> page) {
        for (Method m : face()) {
            Pattern row = Pattern.compile("\\| `" + m.getName() + "\\(([^)]*)\\)` \\| [^|]+ \\| [^|]+ \\|");
            int rows = 0;
            for (String line : page) {
                Matcher found = row.matcher(line);
                if (found.matches()) {
                    rows++;
                    Check.due("parameters in the row of " + m.getName(), found.group(1).split(", ").length, m.getParameterCount());
                }
            }
            Check.due("rows of " + m.getName(), rows, 1);
        }
        Check.due("the constructor's row", page.stream().anyMatch(line -> line.startsWith("| `StoneHall()` |")), true);
    }

    private static void example() {
        // as on the page
        StoneHall hall = new StoneHall();
        int good = hall.grade(100);                     // grades of slices, by their worth
        int poor = hall.grade(10);
        hall.kind(1, 12, 4, 0, 0);                      // kinds of boulders: a prior, and weights by grades
        hall.kind(3, 4, 12, 0, 0);
        int owner = hall.man(100);                      // men, by their purses
        int buyer = hall.man(500);
        int boulder = hall.boulder(owner, 2, 0b01_00);  // two slices: first grade 0, then grade 1

        hall.feed(0x636f7374, 0x20333b00, 0, 0, 0);     // the tape: "cost 3;" and bytes 0
        hall.customs(7);                                // its first 7 bytes are the customs from now on

        hall.bid(buyer, boulder, 150);
        int winner = hall.open(boulder);                // the sale; sale(0) tells its price
        long upper = hall.rest(boulder, 0);             // what the rest is worth: upper / lower
        long lower = hall.rest(boulder, 1);
        long advice = hall.best(boulder, 2);            // 1: sell the rest, 2: cut on
        int grade = hall.cut(boulder);
        int coins = hall.sell(boulder);
        // so far as on the page
        Check.due("good and poor", good * 10 + poor, 1);
        Check.due("winner", winner, buyer);
        Check.due("upper", upper, 175);
        Check.due("lower", lower, 2);
        Check.due("advice", advice, 2);
        Check.due("grade", grade, good);
        Check.due("coins", coins, 0);
        Check.due("cost 3 is in force", hall.purse(buyer), 500 - 150 - 3 + 100);
        Check.due("the owner has the price", hall.purse(owner), 250);
    }

    private static void exampleIsThePages(List<String> page) throws IOException {
        List<String> here = between(Files.readAllLines(THIS, StandardCharsets.UTF_8), "// as on the page", "// so far as on the page");
        List<String> there = between(page, "```java", "```");
        Check.due("lines of the page's example", there.size(), here.size());
        for (int i = 0; i < Math.min(here.size(), there.size()); i++) {
            Check.due("the page's example has: " + there.get(i), there.get(i).equals(here.get(i)), true);
        }
    }

    private static List<String> between(List<String> lines, String first, String last) {
        List<String> found = new ArrayList<>();
        boolean inside = false;
        for (String line : lines) {
            if (inside && line.trim().equals(last)) {
                return found;
            }
            if (inside) {
                found.add(line.trim());
            }
            inside |= line.trim().equals(first);
        }
        return found;
    }

    private static void runOfCalls(List<String> page) {
        List<String> rows = between(page, "```text", "```");
        StoneHall hall = new StoneHall();
        for (String row : rows) {
            Matcher call = RUN_ROW.matcher(row);
            Check.due("a call with its answer: " + row, call.matches(), true);
            if (call.matches()) {
                makeCall(hall, call.group(1), call.group(2).split(", "), call.group(3));
            }
        }
        Check.due("calls of the run: " + rows.size(), rows.size() > 0 && rows.size() <= MOST_CALLS, true);
        for (Method m : face()) {
            Check.due("the run shows an answer of " + m.getName(), ANSWERED.contains(m.getName()), true);
            // a feed() that can't be done needs twenty ahead of it: too many for the page
            boolean shown = REFUSED.contains(m.getName()) || m.getName().equals("feed");
            Check.due("the run shows what can't be done by " + m.getName(), shown, true);
        }
    }

    private static void makeCall(StoneHall hall, String name, String[] arguments, String want) {
        Method method = face().stream().filter(m -> m.getName().equals(name)).findFirst().orElse(null);
        Check.due("there is a call " + name, method != null, true);
        if (method == null) {
            return;
        }
        String got = answer(hall, method, arguments);
        Check.due(name + "(" + String.join(", ", arguments) + ") = " + want + ", answered " + got, got.equals(want), true);
        boolean refused = List.of("-1", "-2", "-1000000000", "false", String.valueOf(Long.MIN_VALUE)).contains(want)
                || want.startsWith("throws.");
        (refused ? REFUSED : ANSWERED).add(name);
    }

    private static String answer(StoneHall hall, Method method, String[] arguments) {
        Object[] numbers = new Object[arguments.length];
        for (int i = 0; i < arguments.length; i++) {
            String text = arguments[i];
            numbers[i] = text.startsWith("0b") ? Integer.valueOf(text.substring(2), 2) : Integer.decode(text);
        }
        try {
            return String.valueOf(method.invoke(hall, numbers));
        } catch (InvocationTargetException e) {
            return "throws." + e.getCause().getClass().getSimpleName();
        } catch (IllegalAccessException e) {
            return "no answer";
        }
    }
}
