import java.io.IOException;
import java.lang.reflect.Method;
import java.lang.reflect.Modifier;
import java.nio.file.DirectoryStream;
import java.nio.file.Files;
import java.nio.file.Path;

/** README.md says how to use the class and how to run its tests, and what it says is so. */
public final class ReadmeTest {
    private static String readme;

    public static void main(String[] args) throws IOException {
        readme = Files.readString(Path.of("README.md"));
        theExampleAnswersAsItSays();
        everyCallIsNamed();
        everyTestIsNamed();
        Check.close();
    }

    private static void says(String text) {
        Check.same("README.md says " + text, readme.contains(text), true);
    }

    private static void theExampleAnswersAsItSays() {
        says("FlashStore store = new FlashStore();");
        FlashStore store = new FlashStore();
        says("store.write(3, 42L); ");
        store.write(3, 42L);
        says("store.spoil(0, 0, 0, 0b111); ");
        store.spoil(0, 0, 0, 0b111);
        says("store.read(3);                // 42:");
        Check.same("read(3)", store.read(3), 42L);
        says("store.place(3);               // 0,");
        Check.same("place(3)", store.place(3), 0);
        says("store.mount();                // as after a loss of power: 1 ");
        Check.same("mount()", store.mount(), 1);
    }

    private static void everyCallIsNamed() {
        for (Method method : FlashStore.class.getDeclaredMethods()) {
            if (Modifier.isPublic(method.getModifiers())) {
                says("`" + method.getName() + "`");
            }
        }
    }

    private static void everyTestIsNamed() throws IOException {
        says("`.ci/run`");
        try (DirectoryStream<Path> tests = Files.newDirectoryStream(Path.of("src/test/java"), "*Test.java")) {
            for (Path test : tests) {
                says("| `" + test.getFileName().toString().replace(".java", "") + "` |");
            }
        }
    }
}
