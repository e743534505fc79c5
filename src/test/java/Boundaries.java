import java.lang.reflect.Method;
import java.util.Arrays;
import java.util.Comparator;
import java.util.List;
import java.util.function.Consumer;
import java.util.function.Predicate;

/** Holds calls at a boundary against the document: what is taken, what is refused, and what a refused call leaves. */
final class Boundaries {
    private static final int NONE = SaffronCourt.NONE;

    private Boundaries() {
    }

    /** Makes an object anew, each time by the same calls. */
    interface Scene {
        SaffronCourt get();
    }

    interface Asks {
        long of(SaffronCourt x);
    }

    interface Does {
        boolean by(SaffronCourt x);
    }

    interface AsksBy {
        long of(SaffronCourt x, int v);
    }

    interface DoesBy {
        boolean by(SaffronCourt x, int v);
    }

    /** Each test of a class is a method named after the promise and the case. */
    static List<Method> testsOf(Class<?> c) {
        return Arrays.stream(c.getDeclaredMethods())
            .filter(m -> m.getName().matches("promise\\d\\d_\\w+"))
            .sorted(Comparator.comparing(Method::getName))
            .toList();
    }

    static void run(Class<?> c) throws ReflectiveOperationException {
        for (Method test : testsOf(c)) {
            int before = Check.wrong();
            test.invoke(null);
            if (Check.wrong() != before) {
                System.out.println("  by " + c.getName() + "." + test.getName());
            }
        }
    }

    /** A call that gives NONE with a STATUS and leaves all else as it was. */
    static void refused(Scene scene, String what, Asks call, int status) {
        SaffronCourt x = scene.get();
        Check.refused(what, x, call.of(x), status);
        leaves(what, x, scene, row -> true);
    }

    /** A call that gives false with a STATUS and leaves all else as it was. */
    static void denied(Scene scene, String what, Does call, int status) {
        refused(scene, what, x -> call.by(x) ? 1 : NONE, status);
    }

    /** A call that answers with STATUS 0 and leaves all as it was. */
    static void asked(Scene scene, String what, Asks call, long want) {
        SaffronCourt x = scene.get();
        Check.due(what, x, call.of(x), want, 0);
        leaves(what, x, scene, row -> true);
    }

    /** A call that tells a FRACTION with STATUS 0 and leaves all else as it was. */
    static void told(Scene scene, String what, Does call, long top, long bottom) {
        SaffronCourt x = scene.get();
        Check.done(what, x, call.by(x));
        Check.fraction(what, x, top, bottom);
        leaves(what, x, scene, row -> !row.startsWith("fraction"));
    }

    /** court() or terms() with a FAULT: the tape and what fault() tells may change alone. */
    static void faulty(Scene scene, String what, Asks call, int kind, int place) {
        SaffronCourt x = scene.get();
        Check.refused(what, x, call.of(x), 9);
        Check.due(what + " kind", x.fault(0), kind);
        Check.due(what + " place", x.fault(1), place);
        leaves(what, x, scene, row -> !row.startsWith("fault") && !row.startsWith("tape"));
    }

    /** The first and the last number are taken; those beside them and the farthest are refused, and leave all as it was. */
    static void range(Scene scene, String what, int first, int last, AsksBy call) {
        for (int v : new int[] {first, last}) {
            SaffronCourt x = scene.get();
            boolean isTaken = call.of(x, v) != NONE;
            Check.due(what + " " + v + " STATUS", x.status(), 0);
            Check.due(what + " " + v, isTaken, true);
        }
        outside(scene, what, first, last, call);
    }

    static void rangeDone(Scene scene, String what, int first, int last, DoesBy call) {
        range(scene, what, first, last, (x, v) -> call.by(x, v) ? 1 : NONE);
    }

    static void outside(Scene scene, String what, int first, int last, AsksBy call) {
        for (int v : new int[] {first - 1, last + 1, Integer.MIN_VALUE, Integer.MAX_VALUE}) {
            refused(scene, what + " " + v, x -> call.of(x, v), 1);
        }
    }

    /** Whatever is done, all is as it was, but for rows that begin so. */
    static void leavesBut(Scene scene, String what, Consumer<SaffronCourt> deeds, String... but) {
        SaffronCourt x = scene.get();
        deeds.accept(x);
        leaves(what, x, scene, row -> Arrays.stream(but).noneMatch(row::startsWith));
    }

    private static void leaves(String what, SaffronCourt x, Scene scene, Predicate<String> kept) {
        List<String> got = Everything.of(x);
        List<String> want = Everything.of(scene.get());
        Check.due(what + " leaves as many", got.size(), want.size());
        for (int i = 0; i < Math.min(got.size(), want.size()); i++) {
            if (kept.test(want.get(i))) {
                Check.due(what + " leaves " + want.get(i) + ", not " + got.get(i), got.get(i).equals(want.get(i)), true);
            }
        }
    }
}
