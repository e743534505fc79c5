import java.nio.charset.StandardCharsets;

/** Counts answers that are not the ones that are due, and feeds texts. */
final class Check {
    private static int asked = 0;
    private static int wrong = 0;

    private Check() {
    }

    static void due(String what, long got, long want) {
        asked++;
        if (got != want) {
            wrong++;
            if (wrong <= 50) {
                System.out.println(what + " answered " + got + ", due is " + want);
            }
        }
    }

    static void due(String what, boolean got, boolean want) {
        due(what, got ? 1 : 0, want ? 1 : 0);
    }

    /** An answer with the STATUS that comes with it. */
    static void due(String what, SaffronCourt x, long got, long want, int status) {
        due(what, got, want);
        due(what + " STATUS", x.status(), status);
    }

    static void refused(String what, SaffronCourt x, long got, int status) {
        due(what, x, got, SaffronCourt.NONE, status);
    }

    static void done(String what, SaffronCourt x, boolean got) {
        due(what, got, true);
        due(what + " STATUS", x.status(), 0);
    }

    static void denied(String what, SaffronCourt x, boolean got, int status) {
        due(what, got, false);
        due(what + " STATUS", x.status(), status);
    }

    static void fraction(String what, SaffronCourt x, long top, long bottom) {
        due(what + " top", x.top(), top);
        due(what + " bottom", x.bottom(), bottom);
    }

    /** Feeds a text, and answers how many bytes it has. */
    static int feed(SaffronCourt x, String text) {
        byte[] bytes = text.getBytes(StandardCharsets.ISO_8859_1);
        for (int at = 0; at < bytes.length; at += 20) {
            int[] ints = new int[5];
            for (int i = 0; i < 20; i++) {
                int b = at + i < bytes.length ? bytes[at + i] & 255 : 0;
                ints[i / 4] = ints[i / 4] << 8 | b;
            }
            x.feed(ints[0], ints[1], ints[2], ints[3], ints[4]);
        }
        return bytes.length;
    }

    static int court(SaffronCourt x, String text) {
        return x.court(feed(x, text));
    }

    static int terms(SaffronCourt x, String text) {
        return x.terms(feed(x, text));
    }

    static SaffronCourt courtOf(String text) {
        SaffronCourt x = new SaffronCourt();
        court(x, text);
        due("court of: " + text, x.status(), 0);
        return x;
    }

    static void courtFault(String text, int kind, int place) {
        SaffronCourt x = new SaffronCourt();
        refused("court: " + text, x, court(x, text), 9);
        due("kind in: " + text, x.fault(0), kind);
        due("place in: " + text, x.fault(1), place);
    }

    static void termsFault(String courtText, String text, int kind, int place) {
        SaffronCourt x = courtOf(courtText);
        refused("terms: " + text, x, terms(x, text), 9);
        due("kind in: " + text, x.fault(0), kind);
        due("place in: " + text, x.fault(1), place);
    }

    static int wrong() {
        return wrong;
    }

    /** A text so many times, a letter more in place of each #. */
    static String times(String text, int many) {
        StringBuilder all = new StringBuilder();
        for (int i = 0; i < many; i++) {
            all.append(text.replace("#", String.valueOf((char) ('a' + i))));
        }
        return all.toString();
    }

    static void end() {
        System.out.println(asked + " answers asked, " + wrong + " not as due");
        if (wrong != 0) {
            System.exit(1);
        }
    }
}
