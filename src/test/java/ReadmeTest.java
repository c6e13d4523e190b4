import java.io.IOException;
import java.lang.reflect.Method;
import java.lang.reflect.Modifier;
import java.nio.file.Files;
import java.nio.file.Path;
import java.util.List;
import java.util.Set;
import java.util.TreeSet;
import java.util.regex.Matcher;
import java.util.regex.Pattern;

/** The example in README.md answers what stands there, and each call is told of. */
public final class ReadmeTest {
    private static final Path README = Path.of("README.md");
    private static final Pattern MAKING =
        Pattern.compile("StrideHeap heap = new StrideHeap\\((\\d+), (\\d+)\\);.*");
    private static final Pattern CALL =
        Pattern.compile("heap\\.(\\w+)\\((?:(-?\\d+)(?:, (-?\\d+))?)?\\); *// (-?\\d+)(?::.*)?");
    private static final Pattern ROW = Pattern.compile("\\| `(\\w+)\\(.*");

    private static final Due due = new Due("ReadmeTest");

    public static void main(String[] args) throws IOException, ReflectiveOperationException {
        List<String> lines = Files.readAllLines(README);
        exampleAnswersAsItSays(lines);
        everyCallHasARow(lines);
        due.end();
    }

    private static void exampleAnswersAsItSays(List<String> lines) throws ReflectiveOperationException {
        StrideHeap heap = null;
        Set<String> called = new TreeSet<>();
        for (String line : lines) {
            Matcher making = MAKING.matcher(line);
            if (making.matches()) {
                heap = new StrideHeap(Integer.parseInt(making.group(1)), Integer.parseInt(making.group(2)));
            }
            // A call that can't be read must not pass for one that answers rightly.
            if (line.startsWith("heap.")) {
                Matcher call = CALL.matcher(line);
                boolean readable = heap != null && call.matches();
                due.holds("the line can be tried: " + line, readable);
                if (readable) {
                    due.is(line, answer(heap, call), Integer.parseInt(call.group(4)));
                    called.add(call.group(1));
                }
            }
        }
        due.holds("the example has every call: " + called, called.equals(face()));
    }

    private static int answer(StrideHeap heap, Matcher call) throws ReflectiveOperationException {
        String name = call.group(1);
        if (call.group(2) == null) {
            return (int) StrideHeap.class.getMethod(name).invoke(heap);
        }
        int one = Integer.parseInt(call.group(2));
        if (call.group(3) == null) {
            return (int) StrideHeap.class.getMethod(name, int.class).invoke(heap, one);
        }
        int two = Integer.parseInt(call.group(3));
        return (int) StrideHeap.class.getMethod(name, int.class, int.class).invoke(heap, one, two);
    }

    private static void everyCallHasARow(List<String> lines) {
        Set<String> told = new TreeSet<>();
        for (String line : lines) {
            Matcher row = ROW.matcher(line);
            if (row.matches()) {
                told.add(row.group(1));
            }
        }
        due.holds("the table has every call: " + told, told.equals(face()));
    }

    private static Set<String> face() {
        Set<String> names = new TreeSet<>();
        for (Method method : StrideHeap.class.getDeclaredMethods()) {
            if (Modifier.isPublic(method.getModifiers())) {
                names.add(method.getName());
            }
        }
        return names;
    }
}
