import java.io.IOException;
import java.lang.reflect.Method;
import java.nio.file.Files;
import java.nio.file.Path;

/** Runs each test that stands for one boundary case of the document; each promise has at least one. */
public final class BoundaryTests {
    private static final int PROMISES = 56;
    private static final Class<?>[] ALL = {ObjectBounds.class, TrayBounds.class, TapeBounds.class, CourtTextBounds.class,
        TermsTextBounds.class, ToldBounds.class, DeedBounds.class, PartBounds.class, TreeBounds.class, CaseBounds.class,
        PickBounds.class, LifeBounds.class, MarkBounds.class};

    private BoundaryTests() {
    }

    public static void main(String[] args) throws ReflectiveOperationException, IOException {
        int[] tests = new int[PROMISES + 1];
        int all = 0;
        for (Class<?> c : ALL) {
            Boundaries.run(c);
            for (Method test : Boundaries.testsOf(c)) {
                tests[Integer.parseInt(test.getName().substring(7, 9))]++;
                all++;
            }
        }
        try (var files = Files.list(Path.of("src/test/java"))) {
            long written = files.filter(f -> f.toString().endsWith("Bounds.java")).count();
            Check.due("each class of boundary cases is run", ALL.length, written);
        }
        for (int promise = 1; promise <= PROMISES; promise++) {
            Check.due("promise " + promise + " has a test", tests[promise] > 0, true);
        }
        System.out.println(all + " boundary cases");
        Check.end();
    }
}
