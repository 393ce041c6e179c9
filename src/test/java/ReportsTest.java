import java.util.NoSuchElementException;

/** Promises 21 and 22: levels, report. */
public final class ReportsTest {
    private static final Check CHECK = new Check("ReportsTest");

    private ReportsTest() {
    }

    public static void main(String[] args) {
        levels();
        states();
        whichPlayer();
        latestWave();
        stays();
        refuses();
        CHECK.end();
    }

    private static String reportOf(EnclosureReferee x, String first, String second) {
        CHECK.refused(first + " " + second, UnsupportedOperationException.class,
                () -> x.play(Boards.cell(x, first), Boards.cell(x, second)));
        return Boards.report(x);
    }

    private static void levels() {
        EnclosureReferee x = Boards.withCapture();
        CHECK.same("no report", x.levels(), 0);
        reportOf(x, "c2", "-");
        CHECK.same("three levels", x.levels(), 3);
        reportOf(x, "c3", "-");
        CHECK.same("four levels", x.levels(), 4);
        reportOf(x, "a1", "-");
        CHECK.same("three again", x.levels(), 3);
    }

    private static void states() {
        EnclosureReferee x = Boards.withCapture();
        Boards.play(x, "e5 e5");
        CHECK.same("a stone of player 0", reportOf(x, "d3", "d1"), "1 5, 2 13, 11 2");
        CHECK.same("a stone of player 1", reportOf(x, "a5", "d1"), "1 5, 2 20, 12 3");
        CHECK.same("an area of player 0", reportOf(x, "c3", "d1"), "1 5, 2 12, 13 3, 20 1");
        CHECK.same("a block", reportOf(x, "e5", "d1"), "1 5, 2 24, 15 4");
        EnclosureReferee y = Boards.started(4, 4, 1);
        CHECK.same("a handicap stone", reportOf(y, "b2", "-"), "1 0, 2 5, 12 -1");
    }

    private static void whichPlayer() {
        EnclosureReferee x = Boards.withCapture();
        CHECK.same("player 1", reportOf(x, "d1", "c3"), "1 4, 3 12, 13 3, 20 1");
        CHECK.same("player 1 after passing", reportOf(x, "-", "a1"), "1 4, 3 0, 12 1");
        CHECK.same("both", reportOf(x, "a1", "c2"), "1 4, 2 0, 12 1");
        CHECK.same("the same cell", reportOf(x, "c2", "c2"), "1 4, 2 7, 11 0");
    }

    private static void latestWave() {
        EnclosureReferee x = Boards.withStruggle();
        CHECK.same("the latest wave", reportOf(x, "d3", "-"), "1 9, 2 13, 14 8, 27 2");
        Boards.play(x, "c3 -");
        CHECK.same("of three cells", reportOf(x, "-", "c3"), "1 10, 3 12, 13 9, 27 3");
        x.undo();
        CHECK.same("taken back", reportOf(x, "-", "b3"), "1 9, 3 11, 13 8, 27 2");
    }

    private static void stays() {
        EnclosureReferee x = Boards.withCapture();
        String report = reportOf(x, "c3", "-");
        CHECK.refused("no cell", IndexOutOfBoundsException.class, () -> x.play(25, 12));
        CHECK.same("after no cell", Boards.report(x), report);
        x.save();
        Boards.play(x, "d1 b1, - -");
        CHECK.refused("over", IllegalStateException.class, () -> x.play(0, 0));
        CHECK.same("after the end", Boards.report(x), report);
        CHECK.same("a record is refused", readRefused(x, "a1a1;"), "1 4, 2 12, 13 3, 20 1");
        x.undo();
        x.undo();
        x.undo();
        CHECK.same("after undo", Boards.report(x), report);
        x.restore();
        CHECK.same("after restore", Boards.report(x), report);
        x.start(4, 4, 4);
        CHECK.same("after start", Boards.report(x), report);
        CHECK.same("the next one", reportOf(x, "-", "b2"), "1 0, 3 5, 12 -1");
    }

    private static String readRefused(EnclosureReferee x, String text) {
        Boards.feed(x, text);
        CHECK.refused("readRecord of " + text, UnsupportedOperationException.class, x::readRecord);
        return Boards.report(x);
    }

    private static void refuses() {
        EnclosureReferee x = Boards.withCapture();
        CHECK.refused("no report", NoSuchElementException.class, () -> x.report(0, 0));
        CHECK.refused("no level before what", NoSuchElementException.class, () -> x.report(0, 2));
        reportOf(x, "c2", "-");
        CHECK.refused("level 3", NoSuchElementException.class, () -> x.report(3, 0));
        CHECK.refused("level -1", NoSuchElementException.class, () -> x.report(-1, 0));
        CHECK.refused("level 4", NoSuchElementException.class, () -> x.report(4, 2));
        CHECK.refused("what 2", IllegalArgumentException.class, () -> x.report(2, 2));
        CHECK.refused("what -1", IllegalArgumentException.class, () -> x.report(0, -1));
        CHECK.same("a part", x.report(1, 1), 7);
    }
}
