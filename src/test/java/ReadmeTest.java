import java.io.IOException;
import java.lang.reflect.InvocationTargetException;
import java.lang.reflect.Method;
import java.lang.reflect.Modifier;
import java.nio.file.Files;
import java.nio.file.Path;
import java.util.ArrayList;
import java.util.List;
import java.util.regex.Matcher;
import java.util.regex.Pattern;

/** What README.md tells of the class is so: its example, call by call, and what its table says a and b may be. */
public final class ReadmeTest {
    private static final Pattern EXAMPLE = Pattern.compile("works\\.(\\w+)\\(([^)]*)\\);\\s*// (-?\\w+):.*");
    private static final Pattern SORT = Pattern.compile("\\| (\\d+) [A-Z]+ \\|([^|]*)\\|([^|]*)\\|.*");
    private static final int ANY = 0;
    private static final Checks checks = new Checks();

    private ReadmeTest() {
    }

    public static void main(String[] args) throws IOException {
        List<String> lines = Files.readAllLines(Path.of("README.md"));
        example(lines);
        sorts(lines);
        namesEachCall(String.join("\n", lines));
        checks.finish();
    }

    private static void example(List<String> lines) {
        UndoWorks works = new UndoWorks();
        int calls = 0;
        for (String line : lines) {
            Matcher matcher = EXAMPLE.matcher(line);
            if (matcher.matches()) {
                calls++;
                String got = answer(works, matcher.group(1), numbersIn(matcher.group(2)));
                checks.holds(line + " -- it answered " + got, got.equals(matcher.group(3)));
            } else {
                checks.holds("each call of the example has its answer: " + line, !line.startsWith("works."));
            }
        }
        checks.holds("README.md has an example", calls > 20);
    }

    private static List<Integer> numbersIn(String text) {
        List<Integer> numbers = new ArrayList<>();
        for (String part : text.split(",")) {
            if (!part.isBlank()) {
                numbers.add(Integer.valueOf(part.strip()));
            }
        }
        return numbers;
    }

    private static String answer(UndoWorks works, String name, List<Integer> with) {
        for (Method method : UndoWorks.class.getMethods()) {
            if (method.getName().equals(name) && method.getParameterCount() == with.size()) {
                return answer(works, method, with.toArray());
            }
        }
        return "no such call";
    }

    private static String answer(UndoWorks works, Method method, Object[] with) {
        try {
            Object answer = method.invoke(works, with);
            return answer == null ? "nothing" : answer.toString();
        } catch (InvocationTargetException thrown) {
            Throwable cause = thrown.getCause();
            return cause.getClass() == IllegalArgumentException.class ? "bad"
                : cause.getClass() == IllegalStateException.class ? "REFUSED" : cause.toString();
        } catch (IllegalAccessException hidden) {
            return hidden.toString();
        }
    }

    private static void sorts(List<String> lines) {
        int next = 0;
        for (String line : lines) {
            Matcher matcher = SORT.matcher(line);
            if (matcher.matches()) {
                int sort = Integer.parseInt(matcher.group(1));
                checks.same("the SORTS in their order", next, sort);
                next++;
                edges(sort, belowOf(matcher.group(2).strip()), belowOf(matcher.group(3).strip()));
            }
        }
        checks.same("SORTS in the table", 24, next);
    }

    private static int belowOf(String told) {
        switch (told) {
            case "":
            case "any int": return ANY;
            case "SLOT": return 4;
            case "NUMBER":
            case "workflow": return 8;
            case "kind": return 10;
            default: return Integer.parseInt(told.replace("0 .. ", "")) + 1;
        }
    }

    private static void edges(int sort, int belowA, int belowB) {
        for (int value : new int[] {Integer.MIN_VALUE, -1, belowA, belowB, Integer.MAX_VALUE}) {
            badOrNot(sort, value, 0, belowA != ANY && (value < 0 || value >= belowA));
            badOrNot(sort, 0, value, belowB != ANY && (value < 0 || value >= belowB));
        }
        badOrNot(sort, Math.max(belowA - 1, 0), Math.max(belowB - 1, 0), false);
    }

    private static void badOrNot(int sort, int a, int b, boolean bad) {
        String got = answer(new UndoWorks(), "node", List.of(0, sort, a, b));
        checks.holds("node(0, " + sort + ", " + a + ", " + b + ") is " + (bad ? "" : "not ") + "bad -- it answered " + got,
            got.equals("bad") == bad);
    }

    private static void namesEachCall(String text) {
        for (Method method : UndoWorks.class.getDeclaredMethods()) {
            if (Modifier.isPublic(method.getModifiers())) {
                checks.holds("README.md tells of " + method.getName(),
                    text.contains("| `" + method.getReturnType() + " " + method.getName() + "("));
            }
        }
    }
}
