import java.lang.reflect.Constructor;
import java.lang.reflect.Field;
import java.lang.reflect.Method;
import java.lang.reflect.Modifier;
import java.util.Set;
import java.util.TreeSet;

/** The public face: just what the document names, and the values of its constants. */
public final class FaceTest {
    private static final Expect EXPECT = new Expect("FaceTest");

    public static void main(String[] args) {
        constants();
        members();
        EXPECT.end();
    }

    private static void constants() {
        EXPECT.same("BAD", CoinChild.BAD, -1);
        EXPECT.same("FULL", CoinChild.FULL, -2);
        EXPECT.same("POOR", CoinChild.POOR, -3);
        EXPECT.same("NOT_SO", CoinChild.NOT_SO, -4);
        EXPECT.same("UNPROVEN", CoinChild.UNPROVEN, -5);
    }

    private static void members() {
        Set<String> found = new TreeSet<>();
        for (Field field : CoinChild.class.getDeclaredFields()) {
            if (!Modifier.isPrivate(field.getModifiers())) {
                found.add(field.getType() + " " + field.getName());
            }
        }
        for (Constructor<?> made : CoinChild.class.getDeclaredConstructors()) {
            found.add("new" + parameters(made.getParameterTypes()));
        }
        Set<String> hidden = new TreeSet<>();
        Set<String> open = new TreeSet<>();
        for (Method method : CoinChild.class.getDeclaredMethods()) {
            if (Modifier.isPrivate(method.getModifiers())) {
                hidden.add(method.getName());
            } else {
                open.add(method.getName());
                found.add(method.getReturnType() + " " + method.getName()
                        + parameters(method.getParameterTypes()));
            }
        }
        Set<String> due = due();
        EXPECT.yes("the face is " + found, found.equals(due));
        hidden.retainAll(open);
        EXPECT.yes("private methods with public names " + hidden, hidden.isEmpty());
        EXPECT.yes("final", Modifier.isFinal(CoinChild.class.getModifiers()));
    }

    private static String parameters(Class<?>[] types) {
        StringBuilder text = new StringBuilder("(");
        for (Class<?> type : types) {
            text.append(text.length() == 1 ? "" : ", ").append(type);
        }
        return text.append(")").toString();
    }

    private static Set<String> due() {
        return new TreeSet<>(Set.of(
                "int BAD", "int FULL", "int POOR", "int NOT_SO", "int UNPROVEN",
                "new(int, int)",
                "int deposit(int, int)",
                "boolean send(int, int, int)",
                "boolean forge(int, int, int, int, int)",
                "int build(boolean, boolean)",
                "boolean show(int)",
                "int accept(int, int)",
                "int exit(int, int, int)",
                "int after(int, int, int)",
                "int between(int, int, int)",
                "int before(int, int, int)",
                "int answer(int, int, int)",
                "int finalise(int)",
                "int watch(int)",
                "int tick(int)",
                "int user(int, int)",
                "int coin(int, int)",
                "int block(int, int)",
                "boolean proves(int, int, int, int, int, int)",
                "int locked()"));
    }
}
