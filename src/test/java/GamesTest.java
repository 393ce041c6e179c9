/** Promises 1 to 7: a new object, start, setRule, setBonus, play, undo, isOver. */
public final class GamesTest {
    private static final Check CHECK = new Check("GamesTest");

    private GamesTest() {
    }

    public static void main(String[] args) {
        newObject();
        start();
        startForgets();
        startRefuses();
        setRule();
        rulesForClashes();
        lowerScoreWins();
        setBonus();
        play();
        playRefuses();
        captures();
        wallsAndEdges();
        largerRegionWins();
        sameSizeStays();
        struggle();
        furtherCaptures();
        undo();
        undoKeeps();
        isOver();
        CHECK.end();
    }

    private static void newObject() {
        EnclosureReferee x = new EnclosureReferee();
        CHECK.same("PASS", EnclosureReferee.PASS, -1);
        CHECK.same("new board", Boards.drawn(x), "...../...../...../...../.....");
        CHECK.same("new rounds", x.count(0), 0);
        CHECK.same("new rule", x.setRule(0), 0);
        CHECK.same("new bonus", x.player(0, 4) + x.player(1, 4), 0);
        CHECK.same("new over", x.isOver(), false);
        CHECK.same("new levels", x.levels(), 0);
        CHECK.same("new buffer", x.feed('a'), 1);
        CHECK.refused("new restore", IllegalStateException.class, x::restore);
    }

    private static void start() {
        EnclosureReferee x = new EnclosureReferee();
        CHECK.same("start(7, 4, 0)", x.start(7, 4, 0), 28);
        CHECK.same("7 by 4", Boards.drawn(x), "......./......./......./.......");
        CHECK.same("start(6, 5, 1)", x.start(6, 5, 1), 29);
        CHECK.same("handicap 1", Boards.drawn(x), "....../.O..../....../....../......");
        CHECK.same("start(6, 5, 2)", x.start(6, 5, 2), 28);
        CHECK.same("handicap 2", Boards.drawn(x), "....../.O..../....../....O./......");
        CHECK.same("start(6, 5, 3)", x.start(6, 5, 3), 27);
        CHECK.same("handicap 3", Boards.drawn(x), "....../.O..O./....../....O./......");
        CHECK.same("start(6, 5, 4)", x.start(6, 5, 4), 26);
        CHECK.same("handicap 4", Boards.drawn(x), "....../.O..O./....../.O..O./......");
        CHECK.same("start(4, 4, 4)", x.start(4, 4, 4), 12);
        CHECK.same("handicap 4 on 4 by 4", Boards.drawn(x), "..../.OO./.OO./....");
        CHECK.same("start(7, 7, 0)", x.start(7, 7, 0), 49);
        CHECK.same("no stone", x.cells(0), (1L << 49) - 1);
        CHECK.same("start(7, 6, 0)", x.start(7, 6, 0), 42);
        CHECK.same("height 6", x.count(2), 6);
        CHECK.same("start(4, 6, 0)", x.start(4, 6, 0), 24);
        CHECK.same("width 4", x.count(1), 4);
        CHECK.same("start(4, 7, 0)", x.start(4, 7, 0), 28);
        CHECK.same("nothing of the wider board", x.cells(0), (1L << 28) - 1);
    }

    private static void startForgets() {
        EnclosureReferee x = Boards.withCapture();
        x.setRule(2);
        x.setBonus(0, 4);
        x.setBonus(1, 5);
        Boards.feed(x, "a1");
        CHECK.same("start again", x.start(5, 5, 0), 25);
        CHECK.same("rounds", x.count(0), 0);
        CHECK.same("captured", x.player(0, 3), 0);
        CHECK.same("area", x.player(0, 2), 0);
        CHECK.same("waves", x.count(6), 0);
        CHECK.same("bonus of 0", x.player(0, 4), 0);
        CHECK.same("bonus of 1", x.player(1, 4), 0);
        CHECK.same("since", x.since(12, 0), -1);
        CHECK.same("record", Boards.written(x), "");
        CHECK.same("the rule stays", x.setRule(2), 2);
        CHECK.same("the input buffer stays", x.feed('a'), 3);
        CHECK.refused("undo", IllegalStateException.class, x::undo);
    }

    private static void startRefuses() {
        EnclosureReferee x = Boards.withCapture();
        int[][] wrong = {
            {3, 5, 0}, {8, 5, 0}, {5, 3, 0}, {5, 8, 0}, {5, 5, -1}, {5, 5, 5}, {-4, 4, 0}, {4, Integer.MIN_VALUE, 0},
            {Integer.MAX_VALUE, 5, 0}, {5, 5, Integer.MAX_VALUE},
        };
        for (int[] w : wrong) {
            CHECK.refused("start of wrong numbers", IllegalArgumentException.class, () -> x.start(w[0], w[1], w[2]));
        }
        CHECK.same("the game stays", Boards.written(x), "c2c3;b3a1;d3e1;c4a5;");
    }

    private static void setRule() {
        EnclosureReferee x = new EnclosureReferee();
        CHECK.same("setRule(2)", x.setRule(2), 0);
        CHECK.same("setRule(1)", x.setRule(1), 2);
        CHECK.same("setRule(0)", x.setRule(0), 1);
        x.setRule(1);
        CHECK.refused("setRule(3)", IllegalArgumentException.class, () -> x.setRule(3));
        CHECK.refused("setRule(-1)", IllegalArgumentException.class, () -> x.setRule(-1));
        CHECK.same("rule after refusals", x.setRule(0), 1);
    }

    private static void rulesForClashes() {
        EnclosureReferee x = Boards.started(4, 4, 0);
        Boards.play(x, "a1 a1");
        x.setRule(1);
        Boards.play(x, "b1 b1");
        x.setRule(2);
        Boards.play(x, "c1 c1");
        CHECK.same("rules 0, 1 and 2", Boards.drawn(x), "#.#./..../..../....");
        CHECK.same("clashes", x.count(5), 3);
        Boards.play(x, "- -");
        CHECK.same("passing is no clash", x.count(5), 3);
    }

    private static void lowerScoreWins() {
        EnclosureReferee x = Boards.started(4, 4, 0);
        x.setRule(2);
        x.setBonus(0, 20);
        Boards.play(x, "a1 a1");
        CHECK.same("player 1 is lower", Boards.drawn(x), "O.../..../..../....");
        x.setBonus(0, 1);
        x.setBonus(1, 2);
        Boards.play(x, "b1 b1");
        CHECK.same("player 0 is lower", Boards.drawn(x), "OX../..../..../....");
        CHECK.same("a clash all the same", x.round(1, 2), 1);
        EnclosureReferee y = Boards.withCapture();
        y.setRule(2);
        Boards.play(y, "e5 e5");
        CHECK.same("captures count", y.cell(4, 4), 2);
        y.setBonus(1, 4);
        Boards.play(y, "d5 d5");
        CHECK.same("3 to 4 points", y.cell(3, 4), 1);
        y.setBonus(1, 3);
        Boards.play(y, "c5 c5");
        CHECK.same("3 to 3 points", y.cell(2, 4), 5);
    }

    private static void setBonus() {
        EnclosureReferee x = new EnclosureReferee();
        CHECK.same("setBonus(0, 20)", x.setBonus(0, 20), 0);
        CHECK.same("setBonus(1, 7)", x.setBonus(1, 7), 0);
        CHECK.same("setBonus(0, 0)", x.setBonus(0, 0), 20);
        CHECK.same("score", x.player(1, 0), 7);
        CHECK.refused("player 2", IndexOutOfBoundsException.class, () -> x.setBonus(2, 0));
        CHECK.refused("player -1", IndexOutOfBoundsException.class, () -> x.setBonus(-1, 21));
        CHECK.refused("bonus 21", IllegalArgumentException.class, () -> x.setBonus(1, 21));
        CHECK.refused("bonus -1", IllegalArgumentException.class, () -> x.setBonus(1, -1));
        CHECK.same("bonus after refusals", x.setBonus(1, 3), 7);
    }

    private static void play() {
        EnclosureReferee x = Boards.started(4, 5, 0);
        CHECK.same("stones", Boards.play(x, "a1 d5"), 0);
        CHECK.same("player 0 passes", Boards.play(x, "- b1"), 0);
        CHECK.same("player 1 passes", Boards.play(x, "c1 -"), 0);
        CHECK.same("the board", Boards.drawn(x), "XOX./..../..../..../...O");
        CHECK.same("the rounds", x.count(0), 3);
    }

    private static void playRefuses() {
        EnclosureReferee x = Boards.withCapture();
        CHECK.refused("cell 25", IndexOutOfBoundsException.class, () -> x.play(25, 0));
        CHECK.refused("cell -2", IndexOutOfBoundsException.class, () -> x.play(3, -2));
        CHECK.refused("cell 25 before a full one", IndexOutOfBoundsException.class, () -> x.play(7, 25));
        CHECK.refused("the greatest int", IndexOutOfBoundsException.class, () -> x.play(Integer.MAX_VALUE, 0));
        CHECK.refused("the least int", IndexOutOfBoundsException.class, () -> x.play(0, Integer.MIN_VALUE));
        CHECK.same("no report for these", x.levels(), 0);
        CHECK.refused("a stone", UnsupportedOperationException.class, () -> x.play(7, 8));
        CHECK.refused("an area", UnsupportedOperationException.class, () -> x.play(-1, 12));
        CHECK.same("the rounds stay", x.count(0), 4);
        CHECK.same("the cells stay", Boards.drawn(x), "O...O/..X../.XxX./..X../O....");
        Boards.play(x, "- -");
        CHECK.refused("over", IllegalStateException.class, () -> x.play(3, 8));
        CHECK.refused("over before a full cell", IllegalStateException.class, () -> x.play(7, 8));
        CHECK.refused("no cell before over", IndexOutOfBoundsException.class, () -> x.play(25, 8));
    }

    private static void captures() {
        EnclosureReferee x = Boards.withCapture();
        CHECK.same("captured", Boards.drawn(x), "O...O/..X../.XxX./..X../O....");
        CHECK.same("score", x.player(0, 0), 3);
        x.undo();
        CHECK.same("the cells that captures changed", Boards.play(x, "c4 d5"), 1);
        EnclosureReferee y = Boards.started(6, 4, 0);
        Boards.play(y, "b1 a1, c1 f1, d2 b2, c3 a4, b3 f4");
        CHECK.same("both cells", Boards.play(y, "a2 c4"), 2);
        CHECK.same("a stone and an empty cell", Boards.drawn(y), "OXX..O/XxxX../.XX.../O.O..O");
        CHECK.same("one captured", y.player(0, 3), 1);
        EnclosureReferee z = Boards.started(7, 7, 0);
        Boards.play(z, "d3 d2, c4 c3, e4 e3, d5 b4");
        CHECK.same("inner ring", Boards.drawn(z),
                "......./...O.../..OXO../.OXxX../...X.../......./.......");
        CHECK.same("outer ring", Boards.play(z, "- f4, - c5, - e5, - d6"), 5);
        CHECK.same("areas can be captured", Boards.drawn(z),
                "......./...O.../..OoO../.OoooO./..OoO../...O.../.......");
        CHECK.same("stones are counted, areas are not", z.player(1, 3), 4);
        CHECK.same("the area of player 0 is lost", z.player(0, 0), 0);
        CHECK.same("the score of player 1", z.player(1, 0), 5 + 8);
    }

    private static void wallsAndEdges() {
        EnclosureReferee x = new EnclosureReferee();
        Boards.play(x, "c2 c2, b3 b3, d3 d3, - c4");
        CHECK.same("blocks enclose with stones", Boards.drawn(x), "...../..#../.#o#./..O../.....");
        EnclosureReferee y = new EnclosureReferee();
        Boards.play(y, "c2 c2, b3 b3, d3 d3");
        CHECK.same("blocks alone", Boards.play(y, "c4 c4"), 0);
        CHECK.same("as many cells: it stays", Boards.drawn(y), "...../..#../.#.#./..#../.....");
        EnclosureReferee z = new EnclosureReferee();
        CHECK.same("a cell at the edge", Boards.play(z, "b1 e5, a2 e1"), 0);
        CHECK.same("is not enclosed", z.cell(0, 0), 0);
        EnclosureReferee v = Boards.started(7, 5, 0);
        CHECK.same("cells at all four edges", Boards.play(v, "b1 d1, c2 a5, d5 a2, c4 e3, b3 -, b5 -, g2 -, f3 -, g4 -"), 0);
        CHECK.same("are not enclosed", Boards.drawn(v), ".X.O.../O.X...X/.X..OX./..X...X/OX.X...");
        EnclosureReferee w = Boards.started(4, 4, 0);
        CHECK.same("the edge of a row", Boards.play(w, "d1 -, c2 -, a3 -, d3 -, b2 -"), 0);
        CHECK.same("does not touch the next row", Boards.drawn(w), "...X/.XX./X..X/....");
    }

    /** Both rings are closed in the same round, so that both players enclose d4. */
    private static void largerRegionWins() {
        EnclosureReferee x = Boards.started(7, 7, 0);
        Boards.play(x, "d3 d2, c4 c3, e4 e3, - b4, - f4, - c5, - e5");
        CHECK.same("the larger region", Boards.play(x, "d5 d6"), 5);
        CHECK.same("takes all at once", x.round(7, 3), 1);
        CHECK.same("the cell in both", x.cell(3, 3), 4);
        EnclosureReferee y = Boards.started(7, 7, 0);
        Boards.play(y, "d2 d3, c3 c4, e3 e4, b4 -, f4 -, c5 -, e5 -");
        CHECK.same("the larger region of player 0", Boards.play(y, "d6 d5"), 5);
        CHECK.same("takes all at once too", y.round(7, 3), 1);
        CHECK.same("the cell in both too", y.cell(3, 3), 3);
    }

    private static void sameSizeStays() {
        EnclosureReferee x = Boards.started(6, 5, 0);
        Boards.play(x, "b2 b2, c2 c2, d2 d2, e2 e2, a3 a3, f3 f3, b4 b4, c4 c4, d4 d4, e4 e4");
        CHECK.same("two regions of three cells", Boards.play(x, "b3 e3"), 16);
        CHECK.same("share two that stay", Boards.drawn(x), "....../.####./#x..o#/.####./......");
    }

    private static void struggle() {
        EnclosureReferee x = Boards.withStruggle();
        CHECK.same("not more than 8 waves", x.round(8, 3), 8);
        CHECK.same("a cell that two waves change counts twice", x.round(8, 4), 16);
        CHECK.same("the end of it", Boards.drawn(x), "...../.###./#x.o#/.###./.....");
        CHECK.same("stones are captured once", x.player(0, 3) * 10 + x.player(1, 3), 11);
        CHECK.same("passing goes on with captures", Boards.play(x, "- a1"), 16);
        CHECK.same("waves of the game", x.count(6), 16);
        CHECK.same("the next end of it", Boards.drawn(x), "O..../.###./#x.o#/.###./.....");
        CHECK.same("a stone in c3 is captured too", Boards.play(x, "c3 -"), 3 * 8);
        CHECK.same("the last end of it", Boards.drawn(x), "O..../.###./#xxo#/.###./.....");
    }

    /** b3 and c3 capture one another; then b3 does not hold against player 0, who takes c3 back. */
    private static void furtherCaptures() {
        EnclosureReferee x = new EnclosureReferee();
        Boards.play(x, "d3 d3, b4 c5, c4 c4, a3 a3, a4 e1, d1 d1, c3 d2, c2 c2");
        CHECK.same("before", Boards.drawn(x), "...#O/..#O./#.X#./XX#../..O..");
        CHECK.same("two cells, then one", Boards.play(x, "b2 b3"), 3);
        CHECK.same("after", Boards.drawn(x), "...#O/.X#O./#xx#./XX#../..O..");
        CHECK.same("two waves", x.round(8, 3), 2);
        CHECK.same("the wave of b3", x.since(11, 1), 0);
        CHECK.same("the wave of c3", x.since(12, 1), 1);
        CHECK.same("score of 0", x.player(0, 0), 2 + 2);
        CHECK.same("score of 1", x.player(1, 0), 2);
        CHECK.refused("c3", UnsupportedOperationException.class, () -> x.play(12, 0));
        CHECK.same("the report of c3", Boards.report(x), "1 9, 2 12, 13 8, 21 1");
        CHECK.refused("b3", UnsupportedOperationException.class, () -> x.play(0, 11));
        CHECK.same("the report of b3", Boards.report(x), "1 9, 3 11, 13 8, 20 2");
    }

    private static void undo() {
        EnclosureReferee x = Boards.withCapture();
        Boards.play(x, "a2 a2, - b1");
        CHECK.same("undo to 5", x.undo(), 5);
        CHECK.same("undo to 4", x.undo(), 4);
        CHECK.same("clashes", x.count(5), 0);
        CHECK.same("blocks", x.count(4), 0);
        CHECK.same("passes", x.player(0, 5), 0);
        CHECK.same("undo to 3", x.undo(), 3);
        CHECK.same("the stone is back", Boards.drawn(x), "O...O/..X../.XOX./...../.....");
        CHECK.same("captured", x.player(0, 3), 0);
        CHECK.same("since", x.since(12, 0), 0);
        CHECK.same("wave", x.since(12, 1), -1);
        CHECK.same("waves", x.count(6), 0);
        CHECK.same("record", Boards.written(x), "c2c3;b3a1;d3e1;");
        CHECK.refused("round 3", IndexOutOfBoundsException.class, () -> x.round(3, 0));
        x.undo();
        x.undo();
        CHECK.same("undo to 0", x.undo(), 0);
        CHECK.refused("no round", IllegalStateException.class, x::undo);
        CHECK.same("still no round", x.count(0), 0);
        CHECK.same("empty again", x.count(3), 25);
    }

    private static void undoKeeps() {
        EnclosureReferee x = new EnclosureReferee();
        Boards.play(x, "a1 b1");
        x.setRule(2);
        x.setBonus(1, 9);
        Boards.feed(x, "a1b");
        CHECK.refused("a stone", UnsupportedOperationException.class, () -> x.play(0, 5));
        x.undo();
        CHECK.same("rule", x.setRule(2), 2);
        CHECK.same("bonus", x.player(1, 0), 9);
        CHECK.same("report", Boards.report(x), "1 1, 2 0, 11 0");
        CHECK.same("input buffer", x.feed('2'), 4);
    }

    private static void isOver() {
        EnclosureReferee x = new EnclosureReferee();
        Boards.play(x, "- a1, a2 -");
        CHECK.same("one passes at a time", x.isOver(), false);
        Boards.play(x, "- -");
        CHECK.same("both pass", x.isOver(), true);
        x.undo();
        CHECK.same("taken back", x.isOver(), false);
        EnclosureReferee w = new EnclosureReferee();
        Boards.play(w, "- -");
        CHECK.same("both pass in the first round", w.isOver(), true);
        EnclosureReferee y = Boards.started(4, 4, 0);
        for (int cell = 0; cell < 15; cell++) {
            y.play(cell, cell);
        }
        CHECK.same("a cell is empty", y.isOver(), false);
        y.play(15, -1);
        CHECK.same("no cell is empty", y.isOver(), true);
        EnclosureReferee z = new EnclosureReferee();
        z.setRule(1);
        for (int round = 0; round < 59; round++) {
            z.play(0, 0);
        }
        CHECK.same("59 rounds", z.isOver(), false);
        z.play(0, 0);
        CHECK.same("60 rounds", z.isOver(), true);
        CHECK.refused("round 60", IllegalStateException.class, () -> z.play(0, 0));
        CHECK.same("rounds", z.count(0), 60);
        CHECK.same("undo to 59", z.undo(), 59);
        CHECK.same("not over any more", z.isOver(), false);
    }
}
