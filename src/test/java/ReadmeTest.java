import java.lang.reflect.Constructor;
import java.lang.reflect.Method;
import java.lang.reflect.Modifier;
import java.nio.file.Files;
import java.nio.file.Path;
import java.util.Arrays;
import java.util.Set;
import java.util.TreeSet;
import java.util.regex.Matcher;
import java.util.regex.Pattern;

/** README.md tells the use of every call, and the answers that it shows are those that are given. */
public final class ReadmeTest {
    private static final Pattern EXAMPLE = Pattern.compile("```java\n(.*?)```", Pattern.DOTALL);
    private static final Pattern MAKING = Pattern.compile("new BlockFinder\\(([^)]*)\\);");
    private static final Pattern CALL = Pattern.compile("finder\\.(\\w+)\\(([^)]*)\\); *// (-?\\w+)(:.*)?");
    private static int wrong = 0;

    public static void main(String[] args) throws Exception {
        String text = Files.readString(Path.of("README.md"));
        Matcher example = EXAMPLE.matcher(text);
        due("there is an example", true, example.find());
        if (wrong == 0) {
            followExample(example.group(1).split("\n"));
        }
        for (String name : publicMethods()) {
            due("the table has " + name + "()", true, text.contains("| `" + name + "("));
        }
        due("it tells how the tests are run", true, text.contains("`.ci/run`"));
        System.out.println(wrong == 0 ? "ReadmeTest: all as due" : "ReadmeTest: " + wrong + " wrong");
        if (wrong != 0) {
            System.exit(1);
        }
    }

    private static void due(String what, Object want, Object got) {
        if (!want.equals(got)) {
            wrong++;
            System.out.println(what + " answered " + got + ", due is " + want);
        }
    }

    private static void followExample(String[] rows) throws Exception {
        Set<String> called = new TreeSet<>();
        Matcher making = MAKING.matcher(rows[0]);
        due("the first row makes an object", true, making.find());
        if (wrong != 0) {
            return;
        }
        Constructor<BlockFinder> maker = BlockFinder.class.getConstructor(int.class, int.class);
        BlockFinder finder = maker.newInstance(numbers(making.group(1)));
        for (int i = 1; i < rows.length; i++) {
            Matcher call = CALL.matcher(rows[i]);
            if (!call.matches()) {
                due("a call with its answer: " + rows[i], true, false);
                continue;
            }
            String name = call.group(1);
            called.add(name);
            due(rows[i].substring(0, call.start(3)), valueOf(call.group(3)), ask(finder, name, call.group(2)));
        }
        due("calls in the example", publicMethods(), called);
    }

    private static Object ask(BlockFinder finder, String name, String arguments) throws Exception {
        Object[] given = numbers(arguments);
        Class<?>[] types = new Class<?>[given.length];
        Arrays.fill(types, int.class);
        return BlockFinder.class.getMethod(name, types).invoke(finder, given);
    }

    private static Object[] numbers(String list) {
        return list.isBlank() ? new Object[0] : Arrays.stream(list.split(", ")).map(Integer::valueOf).toArray();
    }

    private static Object valueOf(String word) throws Exception {
        if (word.equals("true") || word.equals("false")) {
            return Boolean.valueOf(word);
        }
        boolean named = Character.isUpperCase(word.charAt(0));
        return named ? BlockFinder.class.getField(word).get(null) : (Object) Integer.valueOf(word);
    }

    private static Set<String> publicMethods() {
        Set<String> names = new TreeSet<>();
        for (Method m : BlockFinder.class.getDeclaredMethods()) {
            if (Modifier.isPublic(m.getModifiers())) {
                names.add(m.getName());
            }
        }
        return names;
    }
}
