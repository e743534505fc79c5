import java.lang.management.ManagementFactory;
import java.lang.reflect.Array;
import java.lang.reflect.Field;
import java.lang.reflect.Modifier;
import java.util.Collections;
import java.util.IdentityHashMap;
import java.util.Set;

/** What one object holds is small, and no call makes anything. */
public final class RoomTests {
    private static final int MOST_OBJECTS = 150;
    private static final int MOST_ELEMENTS = 6000;
    private static final int ROUNDS = 40;

    private static int objects = 0;
    private static int elements = 0;

    private static void count(Object o, Set<Object> seen) throws IllegalAccessException {
        if (o == null || o instanceof String || !seen.add(o)) {
            return;
        }
        objects++;
        if (o.getClass().isArray()) {
            elements += Array.getLength(o);
            for (int i = 0; o instanceof Object[] && i < Array.getLength(o); i++) {
                count(Array.get(o, i), seen);
            }
            return;
        }
        for (Field f : o.getClass().getDeclaredFields()) {
            if (!Modifier.isStatic(f.getModifiers())) {
                elements++;
                f.setAccessible(true);
                if (!f.getType().isPrimitive()) {
                    count(f.get(o), seen);
                }
            }
        }
    }

    private static void calls(SaffronCourt x, int[] court, int[] terms, int courtLength, int termsLength) {
        for (int i = 0; i < court.length; i += 5) {
            x.feed(court[i], court[i + 1], court[i + 2], court[i + 3], court[i + 4]);
        }
        x.court(courtLength);
        for (int i = 0; i < terms.length; i += 5) {
            x.feed(terms[i], terms[i + 1], terms[i + 2], terms[i + 3], terms[i + 4]);
        }
        x.terms(termsLength);
        x.mark();
        x.live(7);
        x.undo();
        x.mean(3, 20);
        x.most(3);
        x.first(3, 2);
        x.game(4);
        x.moveOf(4);
        x.fewest(255);
        x.fewestSet(255);
        x.deep(255);
        x.askDeep(255);
        x.dear(255);
        x.askDear(255);
        x.tray(0, 3, 60);
        x.write(0, 1, 1);
        x.pour(0, 0, 0, 2, 2);
        x.fits(0, 20);
        x.likely(0, 20);
        x.oddsThat(0, 20, 1);
        x.next(0, 0);
        x.gather(0, 12);
        x.brisk(0, 12);
        x.blind(0, 4, 2);
        x.share(0);
        x.copyBeds(0);
        x.think(3, 0, 1);
        x.couples();
        x.barren();
        x.told(10);
    }

    private static int[] ints(String text) {
        int[] ints = new int[(text.length() + 19) / 20 * 5];
        for (int i = 0; i < ints.length * 4; i++) {
            ints[i / 4] = ints[i / 4] << 8 | (i < text.length() ? text.charAt(i) : 0);
        }
        return ints;
    }

    public static void main(String[] args) throws IllegalAccessException {
        SaffronCourt x = new SaffronCourt();
        count(x, Collections.newSetFromMap(new IdentityHashMap<>()));
        Check.due("few objects: " + objects, objects <= MOST_OBJECTS, true);
        Check.due("few elements: " + elements, elements <= MOST_ELEMENTS, true);

        String court = "bed crocus 9 sham 3;bed crocus 4;case a weight 1;case b weight 2;case c weight 3;case d weight 4;"
            + "case e weight 1;case f weight 2;case g weight 3;case h weight 4;claim ka at 0 of a b c d;claim kb at 1 of a b e f;"
            + "claim kc at 0 of a c e g;claim kd at 1 of a;claim ke at 0 of b;scholar s at 0 gold 3;scholar t at 1;";
        String terms = "loop 99;any;when made ka;forget;end;pick s;night 1;end;";
        int[] courtInts = ints(court);
        int[] termsInts = ints(terms);
        var threads = (com.sun.management.ThreadMXBean) ManagementFactory.getThreadMXBean();
        calls(x, courtInts, termsInts, court.length(), terms.length());
        Check.due("the terms are lived", x.lived(4), 1);
        threads.getCurrentThreadAllocatedBytes();
        long before = threads.getCurrentThreadAllocatedBytes();
        for (int i = 0; i < ROUNDS; i++) {
            calls(x, courtInts, termsInts, court.length(), terms.length());
        }
        long made = threads.getCurrentThreadAllocatedBytes() - before;
        Check.due("bytes that calls made: " + made, made < 1000, true);
        Check.end();
    }
}
