import java.io.IOException;
import java.lang.reflect.InvocationTargetException;
import java.lang.reflect.Method;
import java.nio.charset.StandardCharsets;
import java.nio.file.Files;
import java.nio.file.Path;
import java.util.Arrays;
import java.util.Comparator;
import java.util.Set;
import java.util.TreeSet;

/** Runs the tests of the edges that the document names, each by its sentence; every promise must have some. */
public final class EdgesTest {
    private static final int PROMISES = 27;
    private static final Path DOCUMENT = Path.of("../shared/DOC.md");

    public static void main(String[] args) throws IOException, IllegalAccessException {
        String document = document();
        Set<Integer> seen = new TreeSet<>();
        Class<?>[] all = {PipesAndDialsEdges.class, MinutesEdges.class, ExplainingEdges.class, ContractsEdges.class,
            AskedEdges.class, RefusalEdges.class};
        int tests = 0;
        for (Class<?> edges : all) {
            tests += runAll(edges, document, seen);
        }
        for (int promise = 1; promise <= PROMISES; promise++) {
            Due.holds("promise " + promise + " has a test of its edges", seen.contains(promise));
        }
        System.out.println(tests + " tests of edges");
        Due.end();
    }

    /** Without line breaks, so that words are found wherever lines end; empty where there is no document. */
    private static String document() throws IOException {
        if (!Files.isReadable(DOCUMENT)) {
            return "";
        }
        return Files.readString(DOCUMENT, StandardCharsets.UTF_8).replaceAll("\\s+", " ");
    }

    private static int runAll(Class<?> edges, String document, Set<Integer> seen) throws IllegalAccessException {
        Method[] methods = edges.getDeclaredMethods();
        Arrays.sort(methods, Comparator.comparing(Method::getName));
        int tests = 0;
        for (Method test : methods) {
            Says says = test.getAnnotation(Says.class);
            if (says == null) {
                continue;
            }
            tests++;
            for (int promise : says.promise()) {
                seen.add(promise);
            }
            Due.about("promise " + Arrays.toString(says.promise()) + " \"" + says.words() + "\"");
            Due.holds("the document has these words", document.isEmpty() || document.contains(says.words()));
            runOne(test);
            Due.about("");
        }
        return tests;
    }

    private static void runOne(Method test) throws IllegalAccessException {
        try {
            test.invoke(null);
        } catch (InvocationTargetException e) {
            Due.holds("no call throws, but " + e.getCause() + " was thrown", false);
        }
    }
}
