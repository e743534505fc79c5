import java.util.ArrayList;
import java.util.List;

/** Asks an object for all that it tells, in some 270 calls; nothing is left of it then. */
final class Everything {
    private static final int[] PLACES = {0, 1, 2, 3, 4, 5, 6, 59, 60};

    private final SaffronCourt x;
    private final List<String> rows = new ArrayList<>();

    private Everything(SaffronCourt x) {
        this.x = x;
    }

    static List<String> of(SaffronCourt x) {
        Everything all = new Everything(x);
        all.askWhatWasTold();
        all.askCourt("now");
        all.askTrays();
        all.askTerms("now");
        all.askMarks();
        all.askTape();
        return all.rows;
    }

    private void say(String what, long answer) {
        rows.add(what + "=" + answer);
    }

    private void askWhatWasTold() {
        say("fraction top", x.top());
        say("fraction bottom", x.bottom());
        say("fault kind", x.fault(0));
        say("fault place", x.fault(1));
        for (int what = 0; what < 5; what++) {
            say("lived " + what, x.lived(what));
        }
    }

    private void askCourt(String when) {
        askSums(when);
        for (int bed = 0; bed < 6; bed++) {
            say(when + " crocuses " + bed, x.bed(bed, 0));
            say(when + " shams " + bed, x.bed(bed, 1));
        }
        for (int which = 0; which < 8; which++) {
            say(when + " weight " + which, x.weight(which));
        }
        for (int claim = 0; claim < 7; claim++) {
            for (int what = 0; what < 4; what++) {
                say(when + " claim " + claim + " " + what, x.claim(claim, what));
            }
        }
        askScholars(when);
    }

    private void askSums(String when) {
        for (int what = 0; what <= 10; what++) {
            say(when + " told " + what, x.told(what));
        }
    }

    private void askScholars(String when) {
        for (int scholar = 0; scholar < 4; scholar++) {
            say(when + " bed of scholar " + scholar, x.scholar(scholar, 0));
            say(when + " gold of scholar " + scholar, x.scholar(scholar, 1));
        }
    }

    private void askTrays() {
        for (int tray = 0; tray < 4; tray++) {
            for (int place : PLACES) {
                say("tray " + tray + " at " + place, x.read(tray, place));
                say("tray " + tray + " at " + place + " STATUS", x.status());
            }
            x.write(tray, 0, 0x123456789abcdef0L);
            say("tray " + tray + " by its sort", x.read(tray, 0));
        }
    }

    private void askTerms(String when) {
        say(when + " lives", x.live(77));
        say(when + " lives STATUS", x.status());
        for (int what = 0; what < 5; what++) {
            say(when + " lived " + what, x.lived(what));
        }
        askSums(when + " behind it");
        askScholars(when + " behind it");
    }

    private void askMarks() {
        for (int i = 0; i < 4; i++) {
            say("mark left " + i, x.undo());
            say("mark STATUS " + i, x.status());
            askSums("mark " + i);
            say("mark " + i + " lives", x.live(3));
            say("mark " + i + " gold", x.told(9));
        }
    }

    private void askTape() {
        int length = x.feed(0x20202020, 0x20202020, 0x20202020, 0x20202020, 0x20202020);
        say("tape length", length);
        say("tape court", x.court(length == SaffronCourt.NONE ? 900 : length));
        say("tape fault", x.fault(0));
        say("tape fault place", x.fault(1));
        for (int what = 0; what < 10; what++) {
            say("tape told " + what, x.told(what));
        }
    }
}
