import java.util.function.Consumer;

/** Boundary cases of MARKS: promises 55 and 56. */
final class MarkBounds {
    private MarkBounds() {
    }

    /** All that is done behind a mark is as it was behind undo(), but for what no mark keeps. */
    private static void takenBack(String what, Consumer<SaffronCourt> deed) {
        Boundaries.leavesBut(Scenes::rich, what, x -> {
            Check.due("mark", x, x.mark(), 3, 0);
            deed.accept(x);
            Check.due(what + " is done", x.status(), 0);
            Check.due("undo", x, x.undo(), 2, 0);
        }, "fault", "tape", "lived");
    }

    static void promise55_threeAreTakenAFourthIs4() {
        SaffronCourt x = new SaffronCourt();
        for (int many = 1; many <= 3; many++) {
            Check.due("mark", x, x.mark(), many, 0);
        }
        Check.refused("a fourth", x, x.mark(), 4);
        Boundaries.refused(Scenes::marked, "a fourth", SaffronCourt::mark, 4);
    }

    static void promise55_aMarkChangesNothingElse() {
        Boundaries.leavesBut(Scenes::rich, "mark", x -> {
            x.mark();
            x.undo();
        });
    }

    static void promise55_behindUndoThereIsRoomAgain() {
        SaffronCourt x = Scenes.marked();
        x.undo();
        Check.due("a third", x, x.mark(), 3, 0);
        Check.refused("a fourth", x, x.mark(), 4);
    }

    static void promise55_aFourthLeavesTheThird() {
        SaffronCourt x = Scenes.small();
        x.mark();
        x.mark();
        x.rule(1);
        x.mark();
        x.rule(2);
        x.mark();
        x.undo();
        Check.due("odds at the third", x, x.told(4), 1, 0);
        x.undo();
        Check.due("odds at the second", x, x.told(4), 5, 0);
    }

    static void promise56_noneIs6() {
        Boundaries.refused(Scenes::small, "undo", SaffronCourt::undo, 6);
        SaffronCourt x = Scenes.small();
        x.mark();
        x.undo();
        Check.refused("none is left", x, x.undo(), 6);
    }

    static void promise56_howManyAreLeftDownTo0() {
        SaffronCourt x = Scenes.marked();
        for (int left = 2; left >= 0; left--) {
            Check.due("left", x, x.undo(), left, 0);
        }
        Check.refused("none is left", x, x.undo(), 6);
    }

    static void promise56_toTheLatestMarkWhichIsGoneThen() {
        SaffronCourt x = Scenes.small();
        for (int odds = 1; odds <= 3; odds++) {
            x.rule(odds);
            x.mark();
        }
        x.rule(16);
        for (int odds = 3; odds >= 1; odds--) {
            x.undo();
            Check.due("odds", x, x.told(4), odds, 0);
        }
    }

    static void promise56_eachDeedIsTakenBack() {
        takenBack("make", x -> x.make(1));
        takenBack("recant", x -> x.recant(0));
        takenBack("forget", x -> x.forget());
        takenBack("walk", x -> x.walk(0, 2));
        takenBack("pick", x -> {
            x.walk(0, 2);
            x.pick(0);
        });
        takenBack("night", x -> x.night(9));
        takenBack("weed", x -> x.weed(0));
        takenBack("teach", x -> x.teach(3, 3, true));
        takenBack("weigh", x -> x.weigh(3, 20));
        takenBack("think", x -> x.think(1, 0, 9));
        takenBack("rule", x -> x.rule(16));
    }

    static void promise56_aCourtATermsAndALifeAreTakenBack() {
        takenBack("court", x -> x.court(0));
        takenBack("a full court", x -> {
            x.court(0);
            Check.court(x, Scenes.FULL);
        });
        takenBack("terms", x -> x.terms(0));
        takenBack("live", x -> x.live(9999));
    }

    static void promise56_noTermsAreTakenBackToo() {
        SaffronCourt x = Scenes.small();
        x.mark();
        Check.terms(x, "any;");
        x.undo();
        Check.refused("live", x, x.live(0), 6);
    }

    static void promise56_namesAreTakenBack() {
        SaffronCourt x = Scenes.small();
        x.mark();
        Check.court(x, "bed;claim xx at 0 of;scholar yy at 0;");
        x.undo();
        Check.due("those of the old court", x, Check.terms(x, "make abc;pick udo;"), 2, 0);
        Check.refused("not those of the new one", x, Check.terms(x, "make xx;"), 9);
    }

    static void promise56_aCourtOfNothingIsTakenBack() {
        SaffronCourt x = new SaffronCourt();
        x.mark();
        Check.court(x, Scenes.FULL);
        Check.due("undo", x, x.undo(), 0, 0);
        for (int what = 0; what <= 10; what++) {
            Check.due("told " + what, x, x.told(what), what == 4 ? 8 : 0, 0);
        }
    }

    static void promise56_traysTheTapeAndTheFractionAreNotTakenBack() {
        SaffronCourt x = Scenes.small();
        x.mark();
        x.tray(3, 0, 1);
        x.write(3, 0, 9);
        x.feed(0, 0, 0, 0, 0);
        x.share(0);
        x.undo();
        Check.due("a place of a tray", x, x.read(3, 0), 9, 0);
        Check.due("the tape", x.feed(0, 0, 0, 0, 0), 40);
        Check.fraction("the fraction", x, 1, 1);
    }
}
