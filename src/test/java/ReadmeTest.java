import java.io.IOException;
import java.lang.reflect.Field;
import java.lang.reflect.Method;
import java.lang.reflect.Modifier;
import java.nio.file.Files;
import java.nio.file.Path;

/** What README.md says: its example answers as it tells, and it names the whole face. */
public final class ReadmeTest {
    private static final Expect EXPECT = new Expect("ReadmeTest");

    public static void main(String[] args) throws IOException {
        example();
        String text = Files.readString(Path.of("README.md"));
        namesEveryCall(text);
        namesEveryTest(text);
        EXPECT.end();
    }

    private static void example() {
        CoinChild chain = new CoinChild(7, 8);
        int coin = chain.deposit(0, 10);
        EXPECT.same("the coin", coin, 0);
        EXPECT.same("held since block 1", chain.user(0, 1 + coin), 1);
        EXPECT.yes("send", chain.send(0, coin, 1));
        int block = chain.build(true, true);
        EXPECT.same("the block", block, 2);
        EXPECT.same("accept", chain.accept(1, coin), 2);
        EXPECT.same("exit", chain.exit(1, coin, block), 0);
        EXPECT.same("tick", chain.tick(8), 8);
        EXPECT.same("finalise", chain.finalise(coin), 1);
        EXPECT.same("user", chain.user(1, 0), 110);
    }

    private static void namesEveryCall(String text) {
        for (Method method : CoinChild.class.getDeclaredMethods()) {
            if (Modifier.isPublic(method.getModifiers())) {
                EXPECT.yes("README.md names " + method.getName(),
                        text.contains("| `" + method.getName() + "("));
            }
        }
        for (Field field : CoinChild.class.getFields()) {
            EXPECT.yes("README.md names " + field.getName(),
                    text.contains("| `" + field.getName() + "` |"));
        }
    }

    private static void namesEveryTest(String text) throws IOException {
        try (var tests = Files.newDirectoryStream(Path.of("src/test/java"), "*Test.java")) {
            for (Path test : tests) {
                String name = test.getFileName().toString().replace(".java", "");
                EXPECT.yes("README.md names " + name, text.contains("`" + name + "`"));
            }
        }
    }
}
