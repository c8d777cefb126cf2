import java.io.IOException;
import java.lang.reflect.Method;
import java.lang.reflect.Modifier;
import java.nio.file.Files;
import java.nio.file.Path;
import java.util.ArrayList;
import java.util.List;
import java.util.Set;
import java.util.TreeSet;
import java.util.regex.Matcher;
import java.util.regex.Pattern;

/** What README.md tells a user is what the class does. Run from the project's folder. */
public final class ExactDeskReadme {
    private static final Pattern CALL = Pattern.compile("desk\\.(\\w+)\\(([^)]*)\\);\\s+// (-?\\w+).*");
    private static final Pattern MEMBER = Pattern.compile(" +public (\\w+) (\\w+)\\(([^)]*)\\);");
    private static final Pattern WAY = Pattern.compile("\\| ([0-3]) \\| .* \\| (-?\\d+) \\| (-?\\d+) \\| (-?\\d+) \\| (-?\\d+) \\|");
    private static final Pattern ROW = Pattern.compile("\\| `(\\w+)\\(([^)]*)\\)` \\|.*\\| (-?\\w+) \\|");
    private static final long[][] QUOTIENTS = {{7L, 2L}, {-7L, 2L}, {5L, 4L}, {-5L, 4L}};

    private static int wrong = 0;

    private static void hold(boolean right, String what) {
        if (!right) {
            wrong++;
            System.out.println(what);
        }
    }

    private static List<Matcher> linesLike(Pattern pattern, List<String> lines) {
        List<Matcher> found = new ArrayList<>();
        for (String line : lines) {
            Matcher matcher = pattern.matcher(line);
            if (matcher.matches()) {
                found.add(matcher);
            }
        }
        return found;
    }

    private static Method method(String name) {
        for (Method method : ExactDesk.class.getDeclaredMethods()) {
            if (method.getName().equals(name)) {
                return method;
            }
        }
        throw new IllegalArgumentException("README.md names " + name + ", which the class has not");
    }

    private static Object number(Class<?> type, String text) {
        if (type == int.class) {
            return Integer.valueOf(text);
        }
        return Long.valueOf(text.endsWith("L") ? text.substring(0, text.length() - 1) : text);
    }

    private static String answer(ExactDesk desk, String name, String[] texts) throws ReflectiveOperationException {
        Method method = method(name);
        Object[] values = new Object[texts.length];
        for (int i = 0; i < texts.length; i++) {
            values[i] = number(method.getParameterTypes()[i], texts[i]);
        }
        return String.valueOf(method.invoke(desk, values));
    }

    private static void theExampleIsTrue(List<String> lines) throws ReflectiveOperationException {
        ExactDesk desk = new ExactDesk();
        List<Matcher> calls = linesLike(CALL, lines);
        hold(calls.size() == 15, "the example has " + calls.size() + " calls with an answer behind them, due are 15");
        for (Matcher call : calls) {
            String got = answer(desk, call.group(1), call.group(2).split(", "));
            hold(got.equals(call.group(3)), call.group() + " answered " + got);
        }
    }

    private static void theFaceIsTheClass(List<String> lines) {
        Set<String> told = new TreeSet<>();
        for (Matcher member : linesLike(MEMBER, lines)) {
            told.add(member.group(1) + " " + member.group(2) + " " + member.group(3).replaceAll(" \\w+(, )?", " ").trim());
        }
        Set<String> due = new TreeSet<>();
        for (Method method : ExactDesk.class.getDeclaredMethods()) {
            if (Modifier.isPublic(method.getModifiers())) {
                StringBuilder types = new StringBuilder();
                for (Class<?> type : method.getParameterTypes()) {
                    types.append(' ').append(type.getName());
                }
                due.add(method.getReturnType().getName() + " " + method.getName() + types);
            }
        }
        hold(told.equals(due), "the face told is " + told + ", due is " + due);
        hold(lines.contains("    public ExactDesk();"), "the constructor is not told");
    }

    private static void theWaysAreTrue(List<String> lines) {
        List<Matcher> ways = linesLike(WAY, lines);
        hold(ways.size() == 4, "there are " + ways.size() + " ways told, due are 4");
        for (Matcher way : ways) {
            for (int i = 0; i < QUOTIENTS.length; i++) {
                ExactDesk desk = new ExactDesk();
                desk.set(0, QUOTIENTS[i][0]);
                desk.share(0, 1L, QUOTIENTS[i][1], Integer.parseInt(way.group(1)));
                hold(desk.get(0) == Long.parseLong(way.group(2 + i)), way.group() + " is not so: " + desk.get(0));
            }
        }
    }

    /** Called with a register or tally that there is not, each call answers what its row says. */
    private static void theRefusalsAreTrue(List<String> lines) throws ReflectiveOperationException {
        List<Matcher> rows = linesLike(ROW, lines);
        hold(rows.size() == 14, "there are " + rows.size() + " calls in the table, due are 14");
        for (Matcher row : rows) {
            String[] values = row.group(2).split(", ");
            java.util.Arrays.fill(values, "1");
            values[0] = "8";
            String got = answer(new ExactDesk(), row.group(1), values);
            hold(got.equals(row.group(3)), row.group() + " is not so: " + got);
        }
    }

    public static void main(String[] args) throws IOException, ReflectiveOperationException {
        List<String> lines = Files.readAllLines(Path.of("README.md"));
        theExampleIsTrue(lines);
        theFaceIsTheClass(lines);
        theWaysAreTrue(lines);
        theRefusalsAreTrue(lines);
        System.out.println(wrong == 0 ? "the README is true" : wrong + " lines of the README are not true");
        if (wrong != 0) {
            System.exit(1);
        }
    }
}
