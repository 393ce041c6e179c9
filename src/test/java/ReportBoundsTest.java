import java.util.NoSuchElementException;

/** The boundary cases that the document's sentences name: promises 21 and 22, and the reports of the description. */
public final class ReportBoundsTest {
    private static final Check CHECK = new Check("ReportBoundsTest");
    private static final int MIN = Integer.MIN_VALUE;
    private static final int MAX = Integer.MAX_VALUE;
    private static final Class<NoSuchElementException> NO_SUCH = NoSuchElementException.class;

    private ReportBoundsTest() {
    }

    public static void main(String[] args) {
        noReport();
        levels();
        replaced();
        numberOfTheRound();
        whichPlayer();
        codesOfStates();
        fromTheBeginning();
        waves();
        latestWave();
        onlyBecauseOfACell();
        staysWhateverHappens();
        noLevel();
        whatOutOfRange();
        refusedInOrder();
        CHECK.end();
    }

    private static String reportOf(EnclosureReferee x, String first, String second) {
        CHECK.refused(first + " " + second, UnsupportedOperationException.class,
                () -> x.play(Boards.cell(x, first), Boards.cell(x, second)));
        return Boards.report(x);
    }

    /** levels "Returns the number of levels, 0 if there is no report." */
    private static void noReport() {
        EnclosureReferee x = new EnclosureReferee();
        CHECK.same("at first", x.levels(), 0);
        x.play(0, 1);
        CHECK.same("after a round", x.levels(), 0);
    }

    /** "It has levels, numbered from 0": three, and four if the cell was captured. */
    private static void levels() {
        EnclosureReferee x = Boards.withCapture();
        reportOf(x, "c2", "-");
        CHECK.same("a stone", x.levels(), 3);
        CHECK.same("level 0", x.report(0, 0), 1);
        CHECK.same("level 2", x.report(2, 0), 11);
        reportOf(x, "c3", "-");
        CHECK.same("an area", x.levels(), 4);
        CHECK.same("level 3", x.report(3, 0), 20);
    }

    /** "which replaces the earlier one": a longer one by a shorter one too. */
    private static void replaced() {
        EnclosureReferee x = Boards.withCapture();
        reportOf(x, "c3", "-");
        CHECK.same("a shorter one", reportOf(x, "-", "c2"), "1 4, 3 7, 11 0");
        CHECK.refused("the last level of the longer one", NO_SUCH, () -> x.report(3, 0));
        CHECK.same("a longer one", reportOf(x, "-", "c3"), "1 4, 3 12, 13 3, 20 1");
    }

    /** "Level 0 has the code 1 and the number of the round.": the first one, the last one that can be played. */
    private static void numberOfTheRound() {
        CHECK.same("round 0", reportOf(Boards.started(4, 4, 1), "b2", "-"), "1 0, 2 5, 12 -1");
        EnclosureReferee x = Boards.idle(58);
        Boards.play(x, "d4 a1");
        CHECK.same("round 59", reportOf(x, "a1", "b1"), "1 59, 2 0, 12 58");
    }

    /** "Level 1 has the code 2, if the choice of player 0 cannot be made, or otherwise 3 ..., and the cell." */
    private static void whichPlayer() {
        EnclosureReferee x = Boards.withCapture();
        CHECK.same("only that of 0", reportOf(x, "a1", "b1"), "1 4, 2 0, 12 1");
        CHECK.same("only that of 1", reportOf(x, "b1", "a1"), "1 4, 3 0, 12 1");
        CHECK.same("that of 1, 0 passes", reportOf(x, "-", "a1"), "1 4, 3 0, 12 1");
        CHECK.same("that of 0, 1 passes", reportOf(x, "a1", "-"), "1 4, 2 0, 12 1");
        CHECK.same("both", reportOf(x, "c2", "a1"), "1 4, 2 7, 11 0");
        CHECK.same("both the same", reportOf(x, "a1", "a1"), "1 4, 2 0, 12 1");
        EnclosureReferee y = Boards.started(7, 7, 0);
        y.play(48, 0);
        CHECK.same("the last cell", reportOf(y, "g7", "b1"), "1 1, 2 48, 11 0");
        CHECK.same("the first cell", reportOf(y, "b1", "a1"), "1 1, 3 0, 12 0");
    }

    /** "Level 2 has the code 10 plus the state of the cell, and the round in which it got this state" */
    private static void codesOfStates() {
        EnclosureReferee x = Boards.busy();
        CHECK.same("state 1", reportOf(x, "d5", "-"), "1 6, 2 23, 11 5");
        CHECK.same("state 2", reportOf(x, "a5", "-"), "1 6, 2 20, 12 3");
        CHECK.same("state 3", reportOf(x, "c3", "-"), "1 6, 2 12, 13 3, 20 1");
        CHECK.same("state 5", reportOf(x, "e5", "-"), "1 6, 2 24, 15 4");
        CHECK.same("state 4", reportOf(Boards.withStruggle(), "d3", "-"), "1 9, 2 13, 14 8, 27 2");
    }

    /** "or -1 if it had it at the beginning of the game": also in a later round; round 0 is not the beginning. */
    private static void fromTheBeginning() {
        EnclosureReferee x = Boards.started(4, 4, 4);
        CHECK.same("at the beginning", reportOf(x, "b3", "-"), "1 0, 2 9, 12 -1");
        x.play(0, 3);
        CHECK.same("in round 1", reportOf(x, "-", "b3"), "1 1, 3 9, 12 -1");
        CHECK.same("got in round 0", reportOf(x, "a1", "-"), "1 1, 2 0, 11 0");
    }

    /** "a level 3 with the code 20 plus the number of the wave, and the number of cells that this wave changed" */
    private static void waves() {
        EnclosureReferee x = new EnclosureReferee();
        Boards.play(x, "d3 d3, b4 c5, c4 c4, a3 a3, a4 e1, d1 d1, c3 d2, c2 c2, b2 b3");
        CHECK.same("the wave 0 of two cells", reportOf(x, "b3", "-"), "1 9, 2 11, 13 8, 20 2");
        CHECK.same("the wave 1 of one cell", reportOf(x, "c3", "-"), "1 9, 2 12, 13 8, 21 1");
        CHECK.same("no wave", reportOf(x, "b2", "-"), "1 9, 2 6, 11 8");
        EnclosureReferee y = Boards.started(5, 5, 0);
        Boards.play(y, "b1 -, c1 -, d1 -, a2 -, e2 -, a3 -, e3 -, a4 -, e4 -, b5 -, c5 -, d5 -");
        CHECK.same("a wave of nine cells", reportOf(y, "b2", "-"), "1 12, 2 6, 13 11, 20 9");
    }

    /** "those of the latest wave that gave the cell its state": in its round, and in a later one. */
    private static void latestWave() {
        EnclosureReferee x = Boards.withStruggle();
        CHECK.same("the last of eight", reportOf(x, "b3", "-"), "1 9, 2 11, 13 8, 27 2");
        Boards.play(x, "c3 -");
        CHECK.same("of a later round", reportOf(x, "b3", "-"), "1 10, 2 11, 13 9, 27 3");
        x.undo();
        CHECK.same("of the earlier one again", reportOf(x, "b3", "-"), "1 9, 2 11, 13 8, 27 2");
    }

    /** "a round that is refused because the game is over leaves none"; nor do choices that are no cells. */
    private static void onlyBecauseOfACell() {
        EnclosureReferee x = Boards.withCapture();
        CHECK.refused("no cell", IndexOutOfBoundsException.class, () -> x.play(7, 25));
        CHECK.same("no report of no cell", x.levels(), 0);
        CHECK.refused("a guarantee", IllegalStateException.class, () -> x.guarantee(0, 7, 1));
        CHECK.same("no report of a guarantee", x.levels(), 0);
        Boards.play(x, "- -");
        CHECK.refused("over", IllegalStateException.class, () -> x.play(7, 1));
        CHECK.same("no report of the end", x.levels(), 0);
        Boards.feed(x, "c2c2;");
        CHECK.refused("over for a record", UnsupportedOperationException.class, x::readRecord);
        CHECK.same("no report of the end of a record", x.levels(), 0);
    }

    /** "A report stays until the next round is refused because of a cell, whatever happens in between" */
    private static void staysWhateverHappens() {
        EnclosureReferee x = Boards.withCapture();
        String report = reportOf(x, "c3", "b1");
        x.save();
        Boards.play(x, "b1 d1");
        CHECK.same("after a round", Boards.report(x), report);
        x.undo();
        x.undo();
        CHECK.same("after undo of the capture", Boards.report(x), report);
        x.restore();
        CHECK.same("after restore", Boards.report(x), report);
        CHECK.same("a record", Boards.read(x, "b1d1;"), 1);
        CHECK.same("after a record", Boards.report(x), report);
        CHECK.same("a syntax error", Boards.read(x, "?"), -100);
        CHECK.same("after a syntax error", Boards.report(x), report);
        x.setRule(2);
        x.setBonus(0, 20);
        CHECK.same("after rule and bonus", Boards.report(x), report);
        Boards.play(x, "- -");
        CHECK.refused("over", IllegalStateException.class, () -> x.play(7, 1));
        CHECK.same("after a round at the end", Boards.report(x), report);
        Boards.feed(x, "c2c2;");
        CHECK.refused("over for a record", UnsupportedOperationException.class, x::readRecord);
        CHECK.same("after a record at the end", Boards.report(x), report);
        x.start(4, 4, 4);
        CHECK.same("after start", Boards.report(x), report);
        CHECK.refused("no cell", IndexOutOfBoundsException.class, () -> x.play(5, 16));
        CHECK.same("after no cell", Boards.report(x), report);
        CHECK.same("the next one", reportOf(x, "a1", "b2"), "1 0, 3 5, 12 -1");
    }

    /** report "Throws NoSuchElementException if there is no such level" */
    private static void noLevel() {
        for (int wrong : new int[] {-1, 4, 5, 64, MIN, MAX}) {
            CHECK.leavesAll("level " + wrong, NO_SUCH, Boards::busy, x -> x.report(wrong, 0));
        }
        CHECK.leavesAll("level 0 of none", NO_SUCH, EnclosureReferee::new, x -> x.report(0, 0));
        EnclosureReferee x = Boards.withCapture();
        reportOf(x, "c2", "-");
        CHECK.refused("level 3 of three", NO_SUCH, () -> x.report(3, 1));
        CHECK.same("level 2 of three", x.report(2, 1), 0);
    }

    /** report "Throws IllegalArgumentException if what is out of range" */
    private static void whatOutOfRange() {
        for (int wrong : new int[] {-1, 2, 64, MIN, MAX}) {
            CHECK.leavesAll("part " + wrong, IllegalArgumentException.class, Boards::busy, x -> x.report(0, wrong));
            CHECK.refused("part " + wrong + " of the last", IllegalArgumentException.class,
                    () -> Boards.busy().report(3, wrong));
        }
    }

    /** "If several exceptions apply, the one named first is thrown.": of report. */
    private static void refusedInOrder() {
        CHECK.leavesAll("level before what", NO_SUCH, Boards::busy, x -> x.report(4, 2));
        CHECK.leavesAll("level -1 before what", NO_SUCH, Boards::busy, x -> x.report(-1, -1));
        CHECK.leavesAll("no report before what", NO_SUCH, EnclosureReferee::new, x -> x.report(0, 2));
    }
}
