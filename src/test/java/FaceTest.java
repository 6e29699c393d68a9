import java.lang.reflect.Constructor;
import java.lang.reflect.Field;
import java.lang.reflect.Method;
import java.lang.reflect.Modifier;
import java.util.Arrays;
import java.util.Set;
import java.util.TreeSet;

/** The public face: its constants with their values, its constructor, its methods, and nothing more. */
public final class FaceTest {
    private static int wrong = 0;

    public static void main(String[] args) {
        constants();
        same("members that can be seen", expectedMembers(), visibleMembers());
        same("names that public and private methods share", new TreeSet<>(), sharedNames());
        due("the class is public and final", Modifier.PUBLIC | Modifier.FINAL,
                BlockFinder.class.getModifiers() & (Modifier.PUBLIC | Modifier.FINAL));
        System.out.println(wrong == 0 ? "FaceTest: all as due" : "FaceTest: " + wrong + " wrong");
        if (wrong != 0) {
            System.exit(1);
        }
    }

    private static void due(String what, int want, int got) {
        if (want != got) {
            wrong++;
            System.out.println(what + ": " + got + ", due is " + want);
        }
    }

    private static void same(String what, Set<String> want, Set<String> got) {
        if (!want.equals(got)) {
            wrong++;
            System.out.println(what + ": " + got + ", due is " + want);
        }
    }

    private static void constants() {
        due("NONE", -1, BlockFinder.NONE);
        due("UNKNOWN", -11, BlockFinder.UNKNOWN);
        due("OUTSIDE", -12, BlockFinder.OUTSIDE);
        due("ROOM", -14, BlockFinder.ROOM);
    }

    private static Set<String> expectedMembers() {
        return new TreeSet<>(Arrays.asList(
                "public static final int NONE", "public static final int UNKNOWN",
                "public static final int OUTSIDE", "public static final int ROOM",
                "public BlockFinder(int, int)",
                "public int box(int, int, int, int)", "public int frame(int, int, int, int)",
                "public int find()", "public int block(int, int)", "public int line(int, int, int)",
                "public int points(int)", "public boolean printed(int)", "public boolean turned()",
                "public int blockOf(int)", "public int candidates()", "public int clear()"));
    }

    private static Set<String> visibleMembers() {
        Set<String> seen = new TreeSet<>();
        for (Field f : BlockFinder.class.getDeclaredFields()) {
            if (!Modifier.isPrivate(f.getModifiers())) {
                seen.add(Modifier.toString(f.getModifiers()) + " " + f.getType() + " " + f.getName());
            }
        }
        for (Constructor<?> c : BlockFinder.class.getDeclaredConstructors()) {
            if (!Modifier.isPrivate(c.getModifiers())) {
                seen.add(Modifier.toString(c.getModifiers()) + " " + c.getName() + list(c.getParameterTypes()));
            }
        }
        for (Method m : BlockFinder.class.getDeclaredMethods()) {
            if (!Modifier.isPrivate(m.getModifiers())) {
                seen.add(Modifier.toString(m.getModifiers()) + " " + m.getReturnType() + " " + m.getName()
                        + list(m.getParameterTypes()));
            }
        }
        return seen;
    }

    private static String list(Class<?>[] types) {
        StringBuilder text = new StringBuilder("(");
        for (Class<?> type : types) {
            text.append(text.length() > 1 ? ", " : "").append(type.getName());
        }
        return text.append(")").toString();
    }

    private static Set<String> sharedNames() {
        Set<String> open = new TreeSet<>();
        Set<String> hidden = new TreeSet<>();
        for (Method m : BlockFinder.class.getDeclaredMethods()) {
            (Modifier.isPrivate(m.getModifiers()) ? hidden : open).add(m.getName());
        }
        for (Class<?> inside : BlockFinder.class.getDeclaredClasses()) {
            for (Method m : inside.getDeclaredMethods()) {
                hidden.add(m.getName());
            }
        }
        hidden.retainAll(open);
        return hidden;
    }
}
