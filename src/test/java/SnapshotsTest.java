/** Promises 26 and 27: save, restore. */
public final class SnapshotsTest {
    private static final Check CHECK = new Check("SnapshotsTest");

    private SnapshotsTest() {
    }

    public static void main(String[] args) {
        save();
        restore();
        restoreAgain();
        restoreOverOtherRounds();
        restoreOnAnotherBoard();
        restoreLeaves();
        CHECK.end();
    }

    private static void save() {
        EnclosureReferee x = new EnclosureReferee();
        CHECK.same("no rounds", x.save(), 0);
        Boards.play(x, "a1 b1, c1 d1");
        CHECK.same("two rounds", x.save(), 2);
        CHECK.same("the game goes on", Boards.written(x), "a1b1;c1d1;");
        CHECK.same("the later save counts", x.restore(), 2);
        x.undo();
        CHECK.same("a shorter game", x.save(), 1);
        Boards.play(x, "e5 e4");
        CHECK.same("in place of the longer one", x.restore(), 1);
        CHECK.same("its record", Boards.written(x), "a1b1;");
    }

    private static void restore() {
        EnclosureReferee x = new EnclosureReferee();
        CHECK.refused("nothing was saved", IllegalStateException.class, x::restore);
        EnclosureReferee y = Boards.withCapture();
        y.setRule(2);
        y.setBonus(0, 7);
        y.setBonus(1, 8);
        y.save();
        y.undo();
        y.undo();
        Boards.play(y, "e4 e4");
        y.setRule(1);
        y.setBonus(0, 1);
        y.setBonus(1, 2);
        CHECK.same("four rounds", y.restore(), 4);
        CHECK.same("the board", Boards.drawn(y), "O...O/..X../.XxX./..X../O....");
        CHECK.same("the record", Boards.written(y), "c2c3;b3a1;d3e1;c4a5;");
        CHECK.same("the rule", y.setRule(0), 2);
        CHECK.same("bonus of 0", y.player(0, 4), 7);
        CHECK.same("bonus of 1", y.player(1, 4), 8);
        CHECK.same("captured", y.player(0, 3), 1);
        CHECK.same("scores", y.round(3, 5), 3);
        CHECK.same("since", y.since(12, 0) * 10 + y.since(12, 1), 30);
        CHECK.same("waves", y.count(6), 1);
        CHECK.same("undo to 3", y.undo(), 3);
        CHECK.same("the stone is back", y.cell(2, 2), 2);
    }

    private static void restoreAgain() {
        EnclosureReferee x = Boards.withCapture();
        x.save();
        for (int i = 0; i < 3; i++) {
            x.undo();
            x.undo();
            Boards.play(x, "- -");
            CHECK.same("over", x.isOver(), true);
            CHECK.same("it stays saved", x.restore(), 4);
            CHECK.same("not over", x.isOver(), false);
            CHECK.same("the game", Boards.drawn(x), "O...O/..X../.XxX./..X../O....");
        }
        Boards.play(x, "e5 d5");
        CHECK.same("rounds after the saved ones", x.restore(), 4);
        CHECK.same("are gone", x.cell(4, 4), 0);
    }

    /** The rounds that are saved are played over by others, so that all of them must come from what was saved. */
    private static void restoreOverOtherRounds() {
        EnclosureReferee x = Boards.withStruggle();
        String before = allOf(x);
        x.save();
        x.start(5, 5, 1);
        x.setRule(1);
        for (int round = 0; round < 12; round++) {
            x.setBonus(round % 2, round);
            Boards.play(x, round % 3 == 0 ? "- a1" : "c3 c3");
            if (round % 3 == 0) {
                x.undo();
                Boards.play(x, "e5 e5");
            }
        }
        CHECK.same("nine rounds", x.restore(), 9);
        CHECK.same("all of them", allOf(x), before);
        while (x.count(0) > 4) {
            x.undo();
        }
        CHECK.same("the board after four of them", Boards.drawn(x), "...../.###./#..../...../.....");
    }

    private static String allOf(EnclosureReferee x) {
        StringBuilder text = new StringBuilder(Boards.drawn(x) + Boards.written(x));
        for (int cell = 0; cell < 25; cell++) {
            text.append(' ').append(x.since(cell, 0)).append(',').append(x.since(cell, 1));
        }
        for (int round = 0; round < x.count(0); round++) {
            for (int what = 0; what < 7; what++) {
                text.append(' ').append(x.round(round, what));
            }
        }
        for (int what = 0; what < 8; what++) {
            text.append(' ').append(x.player(0, what)).append(',').append(x.player(1, what));
        }
        return text.toString();
    }

    private static void restoreOnAnotherBoard() {
        EnclosureReferee x = Boards.started(7, 4, 2);
        Boards.play(x, "a1 g4");
        x.save();
        x.start(4, 7, 4);
        Boards.play(x, "a1 d7, a7 d1");
        CHECK.same("restore", x.restore(), 1);
        CHECK.same("width", x.count(1), 7);
        CHECK.same("height", x.count(2), 4);
        CHECK.same("the board", Boards.drawn(x), "X....../.O...../.....O./......O");
        CHECK.same("the record", Boards.written(x), "a1g4;");
        x.undo();
        CHECK.same("the beginning", Boards.drawn(x), "......./.O...../.....O./.......");
    }

    private static void restoreLeaves() {
        EnclosureReferee x = new EnclosureReferee();
        x.save();
        Boards.play(x, "a1 b1");
        Boards.feed(x, "a2b2");
        CHECK.refused("a stone", UnsupportedOperationException.class, () -> x.play(0, 5));
        x.restore();
        CHECK.same("report", Boards.report(x), "1 1, 2 0, 11 0");
        CHECK.same("input buffer", x.feed(';'), 5);
        CHECK.same("a record on the restored game", x.readRecord(), 1);
    }
}
