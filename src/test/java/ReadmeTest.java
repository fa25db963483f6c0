import java.io.IOException;
import java.lang.reflect.Method;
import java.nio.file.Files;
import java.nio.file.Path;
import java.util.Set;
import java.util.TreeSet;
import java.util.regex.Matcher;
import java.util.regex.Pattern;

/** Makes the calls of README.md's example, each of which has its answer behind it. */
public final class ReadmeTest {
    private static final Pattern CALL = Pattern.compile("tree\\.(\\w+)\\((.*?)\\); +// (\\w+|-\\d+)(:.*)?.*");
    private static final int CALLS_OF_THE_FACE = 19;

    public static void main(String[] args) throws IOException, ReflectiveOperationException {
        SurrogateTree tree = new SurrogateTree();
        Set<String> made = new TreeSet<>();
        for (String line : Files.readAllLines(Path.of("README.md"))) {
            if (line.startsWith("tree.")) {
                Matcher parts = CALL.matcher(line);
                Check.isTrue("a call with its answer: " + line, parts.matches());
                Method method = methodNamed(parts.group(1));
                Object answer = method.invoke(tree, arguments(method, parts.group(2)));
                Check.isTrue(line + " but the answer is " + answer,
                    method.getReturnType() == void.class || String.valueOf(answer).equals(parts.group(3)));
                made.add(method.getName());
            }
        }
        Check.same("every call of the face is shown", made.size(), CALLS_OF_THE_FACE);
        Check.end();
    }

    private static Method methodNamed(String name) throws ReflectiveOperationException {
        for (Method method : SurrogateTree.class.getDeclaredMethods()) {
            if (method.getName().equals(name)) {
                return method;
            }
        }
        throw new NoSuchMethodException(name);
    }

    private static Object[] arguments(Method method, String list) {
        Class<?>[] types = method.getParameterTypes();
        String[] texts = list.split(", ");
        Object[] values = new Object[types.length];
        for (int i = 0; i < types.length; i++) {
            if (texts[i].equals("MISSING")) {
                values[i] = SurrogateTree.MISSING;
            } else if (types[i] == long.class) {
                values[i] = Long.parseLong(texts[i].replace("L", ""));
            } else {
                values[i] = Integer.parseInt(texts[i]);
            }
        }
        return values;
    }
}
