/** The boundary cases that the document's sentences name: clashes, regions, waves, captures and scores. */
public final class CaptureBoundsTest {
    private static final Check CHECK = new Check("CaptureBoundsTest");

    private CaptureBoundsTest() {
    }

    public static void main(String[] args) {
        differentChoices();
        clashBlocks();
        clashIsNothing();
        clashHelpsTheLower();
        scoresOfEarlierRoundsCount();
        bothPassingIsNoClash();
        capturesAfterPassing();
        capturesAfterAClash();
        oneCell();
        cellsAtTheEdge();
        ringWithAGap();
        ownCellsAreNotInRegions();
        notContainedInTheOther();
        samePosition();
        largerByOneCell();
        sameSize();
        noWave();
        eightWaves();
        eightWavesInEachRound();
        firstWave();
        stoneOfThisRoundIsCaptured();
        largestCapture();
        areasAreNotCaptured();
        scores();
        CHECK.end();
    }

    /** "if they are different, each player that does not pass gets a stone on its cell" */
    private static void differentChoices() {
        EnclosureReferee x = new EnclosureReferee();
        Boards.play(x, "a1 b1");
        CHECK.same("next to one another", Boards.drawn(x), "XO.../...../...../...../.....");
        Boards.play(x, "- c1");
        CHECK.same("player 0 gets none", Boards.drawn(x), "XOO../...../...../...../.....");
        Boards.play(x, "d1 -");
        CHECK.same("player 1 gets none", Boards.drawn(x), "XOOX./...../...../...../.....");
        CHECK.same("no clash", x.count(5), 0);
    }

    /** "with the rule 0, the cell becomes a block": whatever the scores are. */
    private static void clashBlocks() {
        CHECK.same("the same scores", stateAfterClash(0, 0, 0), 5);
        CHECK.same("player 0 lower", stateAfterClash(0, 0, 20), 5);
        CHECK.same("player 1 lower", stateAfterClash(0, 20, 0), 5);
    }

    /** "with the rule 1, nothing happens" */
    private static void clashIsNothing() {
        CHECK.same("the same scores, rule 1", stateAfterClash(1, 0, 0), 0);
        CHECK.same("player 0 lower, rule 1", stateAfterClash(1, 0, 20), 0);
        CHECK.same("player 1 lower, rule 1", stateAfterClash(1, 20, 0), 0);
    }

    /** "with the rule 2, the player with the lower score gets a stone there, or, if both have the same score ..." */
    private static void clashHelpsTheLower() {
        for (int bonus0 = 0; bonus0 <= 20; bonus0++) {
            for (int bonus1 = 0; bonus1 <= 20; bonus1++) {
                int due = bonus0 < bonus1 ? 1 : bonus0 > bonus1 ? 2 : 5;
                CHECK.same(bonus0 + " to " + bonus1, stateAfterClash(2, bonus0, bonus1), due);
            }
        }
    }

    private static int stateAfterClash(int rule, int bonus0, int bonus1) {
        EnclosureReferee x = new EnclosureReferee();
        x.setRule(rule);
        x.setBonus(0, bonus0);
        x.setBonus(1, bonus1);
        Boards.play(x, "c3 c3");
        CHECK.same("it is a clash all the same", x.round(0, 2), 1);
        return x.cell(2, 2);
    }

    /** The score is that before the round: area 1 and captured 2 of player 0, against a bonus one less, equal, more. */
    private static void scoresOfEarlierRoundsCount() {
        int[] due = {2, 5, 1};
        for (int i = 0; i < 3; i++) {
            EnclosureReferee x = Boards.withCapture();
            x.setRule(2);
            x.setBonus(1, 2 + i);
            Boards.play(x, "e5 e5");
            CHECK.same("3 to " + (2 + i), x.cell(4, 4), due[i]);
        }
    }

    /** "If both choose the same cell, this is a clash": passing is no cell. */
    private static void bothPassingIsNoClash() {
        for (int rule = 0; rule <= 2; rule++) {
            EnclosureReferee x = new EnclosureReferee();
            x.setRule(rule);
            Boards.play(x, "- -");
            CHECK.same("clashes of rule " + rule, x.count(5), 0);
            CHECK.same("a part of the round", x.round(0, 2), 0);
            CHECK.same("empty cells", x.count(3), 25);
        }
    }

    /** "Then captures are made.": also when both pass. */
    private static void capturesAfterPassing() {
        EnclosureReferee x = Boards.withStruggle();
        CHECK.same("eight waves of two cells", Boards.play(x, "- -"), 16);
        CHECK.same("and over", x.isOver(), true);
        CHECK.same("they are of this round", x.since(11, 0), 9);
    }

    /** "Then captures are made.": also when a clash changes nothing, or closes a region with a block. */
    private static void capturesAfterAClash() {
        EnclosureReferee x = Boards.withStruggle();
        x.setRule(1);
        CHECK.same("after nothing", Boards.play(x, "a1 a1"), 16);
        EnclosureReferee y = Boards.withCapture();
        y.undo();
        CHECK.same("after a block", Boards.play(y, "c4 c4"), 1);
        CHECK.same("the captured cell", y.cell(2, 2), 3);
    }

    /** "A region is enclosed by the player if it contains no cell at the edge of the board.": each cell alone. */
    private static void oneCell() {
        for (int width = 4; width <= 7; width++) {
            for (int height = 4; height <= 7; height++) {
                for (int cell = 0; cell < width * height; cell++) {
                    for (int player = 0; player <= 1; player++) {
                        walledCell(width, height, cell, player);
                    }
                }
            }
        }
    }

    /** Stones on all neighbors of a cell; the last one closes the region of this cell alone. */
    private static void walledCell(int width, int height, int cell, int player) {
        EnclosureReferee x = Boards.started(width, height, 0);
        int column = cell % width;
        int row = cell / width;
        boolean isAtEdge = column == 0 || row == 0 || column == width - 1 || row == height - 1;
        int changed = 0;
        int[][] steps = {{-1, 0}, {1, 0}, {0, -1}, {0, 1}};
        for (int[] step : steps) {
            int nextColumn = column + step[0];
            int nextRow = row + step[1];
            if (nextColumn >= 0 && nextColumn < width && nextRow >= 0 && nextRow < height) {
                CHECK.same("not closed yet", changed, 0);
                int next = nextRow * width + nextColumn;
                changed = x.play(player == 0 ? next : -1, player == 0 ? -1 : next);
            }
        }
        String what = "cell " + cell + " of " + width + " by " + height + " in stones of " + player;
        CHECK.same(what, changed, isAtEdge ? 0 : 1);
        CHECK.same("the state of " + what, x.cell(column, row), isAtEdge ? 0 : 3 + player);
    }

    /** "... if it contains no cell at the edge of the board.": one cell at the edge in a region of two is enough. */
    private static void cellsAtTheEdge() {
        String[] drawings = {
            ".X.../X.X../X.X../.X.../.....", ".X.X./.X.X./..X../...../.....", "...../XX.../..X../XX.../.....",
            "...../...XX/..X../...XX/.....", "...../...../..X../.X.X./.X.X.",
        };
        int[] due = {2, 0, 0, 0, 0};
        for (int i = 0; i < drawings.length; i++) {
            EnclosureReferee x = Boards.started(5, 5, 0);
            int changed = 0;
            String signs = drawings[i].replace("/", "");
            for (int cell = 0; cell < 25; cell++) {
                changed += signs.charAt(cell) == 'X' ? x.play(cell, EnclosureReferee.PASS) : 0;
            }
            CHECK.same("captured in " + drawings[i], changed, due[i]);
        }
    }

    /** The whole inside of each board is a region that comes out at the one gap of a ring, wherever this is. */
    private static void ringWithAGap() {
        for (int width = 4; width <= 7; width++) {
            for (int height = 4; height <= 7; height++) {
                int[] ring = ring(width, height);
                for (int gap = 0; gap < ring.length; gap++) {
                    EnclosureReferee x = Boards.started(width, height, 0);
                    int changed = 0;
                    for (int i = 1; i < ring.length; i++) {
                        changed += x.play(ring[(gap + i) % ring.length], EnclosureReferee.PASS);
                    }
                    CHECK.same("with a gap", changed, 0);
                    CHECK.same("closed", x.play(ring[gap], EnclosureReferee.PASS), (width - 2) * (height - 2));
                    CHECK.same("the corners stay", x.count(3), 4);
                }
            }
        }
    }

    /** The cells at the edge without the corners. */
    private static int[] ring(int width, int height) {
        int[] ring = new int[2 * (width - 2) + 2 * (height - 2)];
        int found = 0;
        for (int column = 1; column < width - 1; column++) {
            ring[found] = column;
            ring[found + 1] = (height - 1) * width + column;
            found += 2;
        }
        for (int row = 1; row < height - 1; row++) {
            ring[found] = row * width;
            ring[found + 1] = row * width + width - 1;
            found += 2;
        }
        return ring;
    }

    /**
     * "Stones and areas of a player are its own cells." and its regions hold "neither its own cells nor blocks": own
     * areas wall as stones do, and those of the other do not.
     */
    private static void ownCellsAreNotInRegions() {
        EnclosureReferee x = Boards.withCapture();
        CHECK.same("in a region of player 1", x.region(1, 12) >> 12 & 1, 1);
        CHECK.same("not in one of player 0", x.region(0, 0) >> 12 & 1, 0);
        Boards.play(x, "- c1, - b2, - d2, - a3, - e3, - b4, - d4");
        CHECK.same("a cross with its area", Boards.play(x, "- c5"), 5);
        CHECK.same("all of it", Boards.drawn(x), "O.O.O/.OoO./OoooO/.OoO./O.O..");
        CHECK.same("four stones", x.player(1, 3), 4);
    }

    /**
     * "Each cell of a region that is enclosed by one player, and not contained in a region that is enclosed by the
     * other one, becomes area of this player": here the two ends of four cells, while the shared ones are as many for both.
     */
    private static void notContainedInTheOther() {
        EnclosureReferee x = Boards.placed("....../.####./#....#/.####./......");
        CHECK.same("only the ends, eight times", Boards.play(x, "b3 e3"), 16);
        CHECK.same("the shared ones stay", Boards.drawn(x), "....../.####./#x..o#/.####./......");
        EnclosureReferee y = Boards.placed(".X.../X.X../..O../.O.O./.....");
        CHECK.same("a region of each alone", Boards.play(y, "b3 c5"), 2);
        CHECK.same("both areas", Boards.drawn(y), ".X.../XxX../.XO../.OoO./..O..");
    }

    /** "the enclosed regions of both players are found on the same position": both capture in one wave. */
    private static void samePosition() {
        EnclosureReferee x = Boards.started(7, 4, 0);
        Boards.play(x, "b1 f1, a2 g2, c2 e2");
        CHECK.same("two cells", Boards.play(x, "b3 f3"), 2);
        CHECK.same("one each", Boards.drawn(x), ".X...O./XxX.OoO/.X...O./.......");
        CHECK.same("in one wave", x.round(3, 3), 1);
        EnclosureReferee y = Boards.started(7, 7, 0);
        Boards.play(y, "d3 d2, c4 c3, e4 e3, - b4, - f4, - c5, - e5");
        Boards.play(y, "d5 d6");
        CHECK.same("the inner ring encloses nothing before the outer one", y.round(7, 3), 1);
        CHECK.same("all four stones of it", y.player(1, 3), 4);
    }

    /** "a cell that both enclose becomes area of the player whose region has more cells": by one cell. */
    private static void largerByOneCell() {
        EnclosureReferee x = Boards.walled();
        CHECK.same("three cells to two", Boards.play(x, "b3 -"), 24);
        CHECK.same("player 1 began, player 0 had the last wave", Boards.drawn(x), "...../.###./#xxx#/.###./.....");
        CHECK.same("one stone", x.player(1, 3), 1);
        EnclosureReferee y = Boards.walled();
        CHECK.same("two cells to three", Boards.play(y, "- b3"), 24);
        CHECK.same("player 0 began, player 1 had the last wave", Boards.drawn(y), "...../.###./#ooo#/.###./.....");
        CHECK.same("one stone of player 1", y.player(0, 3), 1);
        EnclosureReferee z = Boards.placed("...../.##../#..../.##../.....");
        CHECK.same("a stone behind a stone", Boards.play(z, "c3 d3"), 2);
        CHECK.same("two cells to one", Boards.drawn(z), "...../.##../#ooO./.##../.....");
        z.undo();
        CHECK.same("the other way round", Boards.play(z, "d3 c3"), 2);
        CHECK.same("one cell to two", Boards.drawn(z), "...../.##../#xxX./.##../.....");
    }

    /** "and stays as it is if both have as many" */
    private static void sameSize() {
        EnclosureReferee x = Boards.walled();
        CHECK.same("no stone: three cells each", Boards.play(x, "a1 -"), 0);
        CHECK.same("they stay", Boards.drawn(x), "X..../.###./#...#/.###./.....");
        CHECK.same("in no wave", x.count(6), 0);
        EnclosureReferee y = Boards.withStruggle();
        CHECK.same("two cells each: the shared one stays", y.cell(2, 2), 0);
        CHECK.same("it has what it had at the beginning", y.since(12, 0), -1);
        Boards.play(y, "c3 -");
        CHECK.same("a cell of one of them", y.cell(2, 2), 3);
    }

    /** "Waves are made as long as the wave before it changed a cell": a wave that changes none is not counted. */
    private static void noWave() {
        EnclosureReferee x = new EnclosureReferee();
        CHECK.same("a stone", Boards.play(x, "a1 -"), 0);
        CHECK.same("no wave", x.round(0, 3), 0);
        CHECK.same("no wave in the game", x.count(6), 0);
        EnclosureReferee y = Boards.withCapture();
        CHECK.same("one wave", y.round(3, 3), 1);
        CHECK.same("one wave in the game", y.count(6), 1);
        EnclosureReferee z = new EnclosureReferee();
        Boards.play(z, "d3 d3, b4 c5, c4 c4, a3 a3, a4 e1, d1 d1, c3 d2, c2 c2, b2 b3");
        CHECK.same("two waves", z.round(8, 3), 2);
        CHECK.same("two waves in the game", z.count(6), 2);
    }

    /** "but not more than 8 in a round"; "a cell that two waves change counts twice" */
    private static void eightWaves() {
        EnclosureReferee x = Boards.walled();
        CHECK.same("two cells, eight times", Boards.play(x, "b3 d3"), 16);
        CHECK.same("as at the beginning of the struggle", Boards.drawn(x), "...../.###./#x.o#/.###./.....");
        CHECK.same("eight waves", x.round(8, 3), 8);
        CHECK.same("their cells", x.round(8, 4), 16);
        CHECK.same("the greatest number of a wave", x.since(11, 1), 7);
        CHECK.same("only two stones", x.player(0, 3) + x.player(1, 3), 2);
    }

    /** "not more than 8 in a round": each round has its own. */
    private static void eightWavesInEachRound() {
        EnclosureReferee x = Boards.withStruggle();
        for (int round = 9; round < 12; round++) {
            CHECK.same("eight more", x.play(EnclosureReferee.PASS, round - 9), 16);
            CHECK.same("in round " + round, x.round(round, 3), 8);
            CHECK.same("in the game", x.count(6), 8 * (round - 7));
        }
    }

    /** "The first wave of a round is numbered 0." */
    private static void firstWave() {
        EnclosureReferee x = Boards.withCapture();
        CHECK.same("the wave of c3", x.since(12, 1), 0);
        CHECK.same("the wave of a stone", x.since(7, 1), -1);
        Boards.play(x, "d5 a2");
        CHECK.same("a later round", Boards.play(x, "e4 b1"), 1);
        CHECK.same("its number", x.since(18, 0), 5);
        CHECK.same("its first wave", x.since(18, 1), 0);
    }

    /** "Stones that become area of the other player are captured by it.": also one of the same round. */
    private static void stoneOfThisRoundIsCaptured() {
        EnclosureReferee x = Boards.placed("...../..X../.X.X./...../.....");
        CHECK.same("into the last gap", Boards.play(x, "c4 c3"), 1);
        CHECK.same("an area at once", x.cell(2, 2), 3);
        CHECK.same("got by a wave", x.since(12, 1), 0);
        CHECK.same("captured", x.player(0, 3), 1);
        CHECK.same("no stone left", x.player(1, 1), 0);
        CHECK.same("the score", x.player(0, 0), 3);
    }

    /** The most that one wave can change, and the greatest numbers of captured stones and areas. */
    private static void largestCapture() {
        EnclosureReferee x = Boards.started(7, 7, 0);
        int[] ring = ring(7, 7);
        int placed = 0;
        for (int inside = 0; inside < 24; inside++) {
            int cell = (1 + inside / 5) * 7 + 1 + inside % 5;
            CHECK.same("not closed yet", x.play(placed < 19 ? ring[placed] : -1, cell), 0);
            placed++;
        }
        CHECK.same("25 cells", x.play(ring[19], 5 * 7 + 5), 25);
        CHECK.same("25 captured", x.player(0, 3), 25);
        CHECK.same("25 of area", x.player(0, 2), 25);
        CHECK.same("a score of 75", x.player(0, 0), 75);
        CHECK.same("nothing for player 1", x.player(1, 0), 0);
        CHECK.same("the part of the round", x.round(24, 4), 25);
        x.setBonus(0, 20);
        CHECK.same("a score of 95", x.player(0, 0), 95);
        CHECK.same("an outcome of 95", x.guarantee(0, -1, 1), 95);
        CHECK.same("one of -95", x.guarantee(1, -1, 1), -95);
    }

    /** "plus 2 for each stone that it has captured": an area that the other one takes is no stone. */
    private static void areasAreNotCaptured() {
        EnclosureReferee x = Boards.withStruggle();
        CHECK.same("one stone of 1", x.player(0, 3), 1);
        CHECK.same("one stone of 0", x.player(1, 3), 1);
        Boards.play(x, "- -");
        CHECK.same("no more of 1", x.player(0, 3), 1);
        CHECK.same("no more of 0", x.player(1, 3), 1);
        CHECK.same("the score of 0", x.player(0, 0), 3);
        CHECK.same("the score of 1", x.player(1, 0), 3);
    }

    /** "The score of a player is the number of cells of its area, plus 2 for each stone ..., plus its bonus" */
    private static void scores() {
        EnclosureReferee x = new EnclosureReferee();
        CHECK.same("at first", x.player(0, 0) + x.player(1, 0), 0);
        EnclosureReferee y = Boards.placed("..X../.X.X./...../...../.....");
        Boards.play(y, "c3 -");
        CHECK.same("an empty cell: 1", y.player(0, 0), 1);
        CHECK.same("stones are no points", y.player(0, 1), 4);
        y.setBonus(0, 20);
        CHECK.same("with the greatest bonus", y.player(0, 0), 21);
        CHECK.same("nothing for player 1", y.player(1, 0), 0);
        EnclosureReferee z = Boards.withCapture();
        z.setBonus(1, 20);
        CHECK.same("a stone: 3", z.player(0, 0), 3);
        CHECK.same("the bonus of player 1", z.player(1, 0), 20);
    }
}
