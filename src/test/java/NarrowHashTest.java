import java.io.IOException;
import java.net.URL;
import java.net.URLClassLoader;
import java.nio.file.Files;
import java.nio.file.Path;
import java.util.Comparator;
import java.util.List;
import java.util.stream.Collectors;
import java.util.stream.Stream;
import javax.tools.ToolProvider;

/**
 * Compiles the class once more with a HASH that keeps a few bits, and makes the runs of NarrowRuns with it.
 * With 59 bits some 2^52 seeds would have to be tried for one that has two candidates of the same pair hash.
 */
public final class NarrowHashTest {
    private static final Path SOURCE = Path.of("src/main/java/BlindMint.java");
    private static final String KEPT_BITS = "(1L << 59) - 1";

    public static void main(String[] args) throws Exception {
        for (int bits : new int[] {1, 2, 4, 6, 9}) {
            Path folder = Files.createTempDirectory("narrow");
            compile(bits, folder);
            runWith(folder, bits);
            delete(folder);
        }
    }

    private static void compile(int bits, Path folder) throws IOException {
        String text = Files.readString(SOURCE);
        int at = text.indexOf(KEPT_BITS);
        if (at < 0 || at != text.lastIndexOf(KEPT_BITS)) {
            throw new AssertionError(SOURCE + " does not have " + KEPT_BITS + " just once");
        }
        Path changed = folder.resolve("BlindMint.java");
        Files.writeString(changed, text.replace(KEPT_BITS, "(1L << " + bits + ") - 1"));
        int failed = ToolProvider.getSystemJavaCompiler().run(null, null, null, "-d", folder.toString(),
                changed.toString());
        if (failed != 0) {
            throw new AssertionError("the class with a narrow HASH does not compile");
        }
    }

    /** The tests' classes are loaded anew, so that they find the changed class in the place of the other. */
    private static void runWith(Path folder, int bits) throws Exception {
        URL own = NarrowHashTest.class.getProtectionDomain().getCodeSource().getLocation();
        URL[] path = {folder.toUri().toURL(), own};
        try (URLClassLoader loader = new URLClassLoader(path, ClassLoader.getPlatformClassLoader())) {
            loader.loadClass("NarrowRuns").getMethod("main", String[].class)
                    .invoke(null, (Object) new String[] {String.valueOf(bits)});
        }
    }

    private static void delete(Path folder) throws IOException {
        List<Path> files;
        try (Stream<Path> all = Files.walk(folder)) {
            files = all.sorted(Comparator.reverseOrder()).collect(Collectors.toList());
        }
        for (Path file : files) {
            Files.delete(file);
        }
    }
}
