import java.util.NoSuchElementException;

/** The boundary cases that the document's sentences name: promises 8 to 16. */
public final class PositionBoundsTest {
    private static final Check CHECK = new Check("PositionBoundsTest");
    private static final int MIN = Integer.MIN_VALUE;
    private static final int MAX = Integer.MAX_VALUE;
    private static final Class<IndexOutOfBoundsException> OUT_OF_BOUNDS = IndexOutOfBoundsException.class;
    private static final Class<IllegalArgumentException> ILLEGAL = IllegalArgumentException.class;
    private static final Class<NoSuchElementException> NO_SUCH = NoSuchElementException.class;
    /** Numbers that are no cells of a board of 5 by 5; a shift of a long or an int takes some for others. */
    private static final int[] NO_CELLS = {-1, 25, 26, 32, 39, 63, 64, 71, 76, 256, -25, -64, MIN, MIN + 7, MAX};
    private static final int[] NO_PLAYERS = {-1, 2, 3, 64, MIN, MAX};

    /** All cells at the edge of 7 by 7 but the corners and f7, then without f1 too. */
    private static final String RING_WITH_GAP = ".XXXXX./X.....X/X.....X/X.....X/X.....X/X.....X/.XXXX..";
    private static final String RING_WITH_GAPS = ".XXXX../X.....X/X.....X/X.....X/X.....X/X.....X/.XXXX..";

    private PositionBoundsTest() {
    }

    public static void main(String[] args) {
        allStates();
        cellOutside();
        sinceTheBeginning();
        sinceRounds();
        sinceWaves();
        sinceOutside();
        sinceWhat();
        countsOfEmptyAndFull();
        countsOfRounds();
        countWhat();
        numbersOfNothing();
        numbersOfEachPlayer();
        passes();
        manyRegions();
        oneCellLeft();
        noRegion();
        playerOutside();
        playerWhat();
        regions();
        regionOutside();
        regionOfOwnCells();
        setsOfCells();
        cellsState();
        chains();
        chainOutside();
        chainOfNoStone();
        noStoneEncloses();
        oneStoneEncloses();
        twoStonesEnclose();
        moreStonesWouldBeNeeded();
        cannotBeEnclosed();
        stoneOnTheCellItself();
        stonesOutside();
        stonesOfOwnCells();
        shares();
        shareOutside();
        CHECK.end();
    }

    /**
     * "A cell is empty (state 0), has a stone of player 0 (1) or of player 1 (2), is area ... (3) ... (4), or is a
     * block"
     */
    private static void allStates() {
        EnclosureReferee x = Boards.busy();
        CHECK.same("state 0", x.cell(1, 0), 0);
        CHECK.same("state 1", x.cell(2, 1), 1);
        CHECK.same("state 2", x.cell(0, 0), 2);
        CHECK.same("state 3", x.cell(2, 2), 3);
        CHECK.same("state 4", Boards.withStruggle().cell(3, 2), 4);
        CHECK.same("state 5", x.cell(4, 4), 5);
    }

    /** cell "Throws IndexOutOfBoundsException if there is no such cell": beyond each side of each board. */
    private static void cellOutside() {
        for (int width = 4; width <= 7; width++) {
            for (int height = 4; height <= 7; height++) {
                EnclosureReferee x = Boards.started(width, height, 0);
                int w = width;
                int h = height;
                CHECK.same("the last cell", x.cell(w - 1, h - 1), 0);
                CHECK.refused("right of it", OUT_OF_BOUNDS, () -> x.cell(w, h - 1));
                CHECK.refused("below it", OUT_OF_BOUNDS, () -> x.cell(w - 1, h));
                CHECK.refused("left of the first", OUT_OF_BOUNDS, () -> x.cell(-1, 0));
                CHECK.refused("left of the second row", OUT_OF_BOUNDS, () -> x.cell(-1, 1));
                CHECK.refused("right of the first row", OUT_OF_BOUNDS, () -> x.cell(w, 0));
                CHECK.refused("above the first", OUT_OF_BOUNDS, () -> x.cell(0, -1));
                CHECK.refused("above the last of its row", OUT_OF_BOUNDS, () -> x.cell(w - 1, -1));
            }
        }
        for (int wrong : new int[] {-1, 5, 256, MIN, MAX}) {
            CHECK.leavesAll("column " + wrong, OUT_OF_BOUNDS, Boards::busy, x -> x.cell(wrong, 2));
            CHECK.leavesAll("row " + wrong, OUT_OF_BOUNDS, Boards::busy, x -> x.cell(2, wrong));
            CHECK.leavesAll("both " + wrong, OUT_OF_BOUNDS, Boards::busy, x -> x.cell(wrong, wrong));
        }
    }

    /** "-1 if it had it at the beginning": empty cells and stones of a handicap, with or without rounds. */
    private static void sinceTheBeginning() {
        EnclosureReferee x = Boards.started(7, 7, 4);
        for (int round = 0; round < 2; round++) {
            for (int cell : new int[] {8, 40, 12, 36, 5, 43, 24}) {
                CHECK.same("since of " + cell, x.since(cell, 0), -1);
                CHECK.same("no wave of " + cell, x.since(cell, 1), -1);
            }
            x.play(round, 48 - round);
        }
    }

    /** "0 the round in which it got its state": the first one, the last one that can be played. */
    private static void sinceRounds() {
        EnclosureReferee x = Boards.started(7, 7, 0);
        x.play(0, 48);
        CHECK.same("the first cell in round 0", x.since(0, 0), 0);
        CHECK.same("the last cell in round 0", x.since(48, 0), 0);
        EnclosureReferee y = Boards.idle(59);
        Boards.play(y, "a1 d4");
        CHECK.same("the first cell in round 59", y.since(0, 0), 59);
        CHECK.same("the last cell in round 59", y.since(15, 0), 59);
        CHECK.same("no capture", y.since(15, 1), -1);
    }

    /**
     * "1 the wave by which it got it, -1 if it was by no capture"; "those of the latest wave that gave the cell its
     * state"
     */
    private static void sinceWaves() {
        EnclosureReferee x = Boards.withCapture();
        CHECK.same("the first wave", x.since(12, 1), 0);
        CHECK.same("a stone by none", x.since(7, 1), -1);
        EnclosureReferee y = Boards.withStruggle();
        CHECK.same("the last wave", y.since(11, 1), 7);
        CHECK.same("a block by none", y.since(6, 1), -1);
        CHECK.same("its round", y.since(6, 0), 0);
        Boards.play(y, "- -");
        CHECK.same("the last wave of a later round", y.since(11, 0) * 10 + y.since(11, 1), 97);
        y.undo();
        CHECK.same("of the earlier one again", y.since(11, 0) * 10 + y.since(11, 1), 87);
    }

    /** since "Throws IndexOutOfBoundsException if there is no such cell" */
    private static void sinceOutside() {
        for (int wrong : NO_CELLS) {
            CHECK.leavesAll("since of " + wrong, OUT_OF_BOUNDS, Boards::busy, x -> x.since(wrong, 0));
            CHECK.refused("the wave of " + wrong, OUT_OF_BOUNDS, () -> Boards.busy().since(wrong, 1));
            CHECK.refused("what first for " + wrong, OUT_OF_BOUNDS, () -> Boards.busy().since(wrong, 2));
        }
    }

    /** since "Throws IllegalArgumentException if what is out of range" */
    private static void sinceWhat() {
        for (int wrong : new int[] {-1, 2, 64, MIN, MAX}) {
            CHECK.leavesAll("since " + wrong, ILLEGAL, Boards::busy, x -> x.since(12, wrong));
            CHECK.leavesAll("since " + wrong + " of an empty cell", ILLEGAL, Boards::busy, x -> x.since(1, wrong));
        }
    }

    /** "3 the empty cells; 4 the blocks": none and all. */
    private static void countsOfEmptyAndFull() {
        EnclosureReferee x = Boards.started(7, 7, 0);
        CHECK.same("49 empty cells", x.count(3), 49);
        CHECK.same("no block", x.count(4), 0);
        for (int cell = 0; cell < 49; cell++) {
            x.play(cell, cell);
        }
        CHECK.same("no empty cell", x.count(3), 0);
        CHECK.same("49 blocks", x.count(4), 49);
        CHECK.same("49 clashes", x.count(5), 49);
    }

    /** "0 the rounds; ... 5 the clashes in this game; 6 the waves in this game that changed a cell": none, and most. */
    private static void countsOfRounds() {
        EnclosureReferee x = Boards.idle(60);
        CHECK.same("60 rounds", x.count(0), 60);
        CHECK.same("60 clashes", x.count(5), 60);
        CHECK.same("no wave", x.count(6), 0);
        EnclosureReferee y = Boards.withStruggle();
        y.setRule(1);
        while (y.count(0) < 60) {
            y.play(0, 0);
        }
        CHECK.same("8 waves in each of 52 rounds", y.count(6), 8 * 52);
        CHECK.same("the latest one", y.since(13, 0), 59);
        EnclosureReferee z = new EnclosureReferee();
        CHECK.same("nothing at first", z.count(0) + z.count(4) + z.count(5) + z.count(6), 0);
    }

    /** count "Throws IllegalArgumentException if what is out of range" */
    private static void countWhat() {
        for (int wrong : new int[] {-1, 7, 64, MIN, MAX}) {
            CHECK.leavesAll("count " + wrong, ILLEGAL, Boards::busy, x -> x.count(wrong));
        }
    }

    /** All numbers of both players at the beginning. */
    private static void numbersOfNothing() {
        int[] due = {0, 0, 0, 0, 0, 0, 1, 49};
        for (int what = 0; what < 8; what++) {
            EnclosureReferee x = Boards.started(7, 7, 0);
            CHECK.same("number " + what + " of 0", x.player(0, what), due[what]);
            CHECK.same("number " + what + " of 1", x.player(1, what), due[what]);
        }
    }

    /**
     * "1 its stones on the board; 2 the cells of its area; 3 the stones that it has captured": of each player its
     * own.
     */
    private static void numbersOfEachPlayer() {
        EnclosureReferee x = Boards.withStruggle();
        Boards.play(x, "c3 -, a1 b1, - c1, - d1");
        CHECK.same("c3 was captured", Boards.drawn(x), "XOOO./.###./#xxo#/.###./.....");
        int[] of0 = {2 + 2 * 1, 1, 2, 1};
        int[] of1 = {1 + 2 * 2, 3, 1, 2};
        for (int what = 0; what < 4; what++) {
            CHECK.same("number " + what + " of 0", x.player(0, what), of0[what]);
            CHECK.same("number " + what + " of 1", x.player(1, what), of1[what]);
        }
    }

    /** "5 the rounds in which it passed": none, all, the first one, the last one. */
    private static void passes() {
        EnclosureReferee x = Boards.started(7, 7, 0);
        for (int cell = 0; cell < 48; cell++) {
            x.play(cell, EnclosureReferee.PASS);
        }
        CHECK.same("in the first round", passesAfter("- a1") * 10 + passesAfter("a1 -"), 10);
        CHECK.same("never", x.player(0, 5), 0);
        CHECK.same("48 times", x.player(1, 5), 48);
        Boards.play(x, "- -");
        CHECK.same("in the last round", x.player(0, 5), 1);
        CHECK.same("there too", x.player(1, 5), 49);
    }

    private static int passesAfter(String round) {
        EnclosureReferee x = new EnclosureReferee();
        Boards.play(x, round);
        return x.player(0, 5);
    }

    /** "6 the number of its regions; 7 the greatest number of cells of its regions": many with one cell. */
    private static void manyRegions() {
        EnclosureReferee x = Boards.started(7, 7, 0);
        for (int cell = 1; cell < 49; cell += 2) {
            x.play(cell, EnclosureReferee.PASS);
        }
        CHECK.same("as on a chessboard", Boards.drawn(x),
                ".X.X.X./XxXxXxX/.XxXxX./XxXxXxX/.XxXxX./XxXxXxX/.X.X.X.");
        CHECK.same("twelve regions", x.player(0, 6), 12);
        CHECK.same("of one cell", x.player(0, 7), 1);
        CHECK.same("one of player 1", x.player(1, 6), 1);
        CHECK.same("all of it", x.player(1, 7), 49);
    }

    /** The only region is one cell: the first, the last, one inside. */
    private static void oneCellLeft() {
        for (String name : new String[] {"a1", "d4", "b2"}) {
            EnclosureReferee x = Boards.nearlyFull(name);
            for (int player = 0; player <= 1; player++) {
                CHECK.same("one region in " + name, x.player(player, 6), 1);
                CHECK.same("of one cell", x.player(player, 7), 1);
                CHECK.same("it is " + name, x.region(player, Boards.cell(x, name)), x.cells(0));
            }
        }
    }

    /** "7 the greatest number of cells of its regions, 0 if it has none" */
    private static void noRegion() {
        EnclosureReferee x = Boards.started(4, 4, 0);
        for (int cell = 0; cell < 16; cell++) {
            CHECK.same("one region", x.player(0, 6), 1);
            CHECK.same("the rest of the cells", x.player(0, 7), 16 - cell);
            x.play(cell, EnclosureReferee.PASS);
        }
        CHECK.same("none", x.player(0, 6), 0);
        CHECK.same("0 if it has none", x.player(0, 7), 0);
        CHECK.same("one of player 1", x.player(1, 6), 1);
        CHECK.same("all the stones of player 0", x.player(1, 7), 16);
        EnclosureReferee y = Boards.nearlyFull("");
        CHECK.same("none in blocks", y.player(0, 6) + y.player(1, 6), 0);
        CHECK.same("0 in blocks", y.player(0, 7) + y.player(1, 7), 0);
    }

    /** player "Throws IndexOutOfBoundsException if there is no such player", also if what is out of range. */
    private static void playerOutside() {
        for (int wrong : NO_PLAYERS) {
            CHECK.leavesAll("player " + wrong, OUT_OF_BOUNDS, Boards::busy, x -> x.player(wrong, 0));
            CHECK.leavesAll("player " + wrong + " first", OUT_OF_BOUNDS, Boards::busy, x -> x.player(wrong, 8));
        }
    }

    /** player "Throws IllegalArgumentException if what is out of range" */
    private static void playerWhat() {
        for (int wrong : new int[] {-1, 8, 64, MIN, MAX}) {
            CHECK.leavesAll("number " + wrong, ILLEGAL, Boards::busy, x -> x.player(0, wrong));
            CHECK.leavesAll("number " + wrong + " of 1", ILLEGAL, Boards::busy, x -> x.player(1, wrong));
        }
    }

    /** region "Returns the set of its cells, bit c for cell c.": all, one, the first and the last cell. */
    private static void regions() {
        for (int width = 4; width <= 7; width++) {
            for (int height = 4; height <= 7; height++) {
                EnclosureReferee x = Boards.started(width, height, 0);
                int last = width * height - 1;
                CHECK.same("all from the first cell", x.region(0, 0), (2L << last) - 1);
                CHECK.same("all from the last cell", x.region(1, last), (2L << last) - 1);
                x.play(1, last - 1);
                x.play(width, last - width);
                CHECK.same("the first cell alone", x.region(0, 0), 1);
                CHECK.same("the last cell alone", x.region(1, last), 1L << last);
                CHECK.same("all but the other corner", x.region(1, 0), (1L << last) - 1
                        - (1L << (last - 1)) - (1L << (last - width)));
            }
        }
    }

    /**
     * region "Throws IndexOutOfBoundsException if there is no such player or cell", also for an own cell or a block.
     */
    private static void regionOutside() {
        for (int wrong : NO_CELLS) {
            CHECK.leavesAll("region of " + wrong, OUT_OF_BOUNDS, Boards::busy, x -> x.region(0, wrong));
            CHECK.refused("region of 1 of " + wrong, OUT_OF_BOUNDS, () -> Boards.busy().region(1, wrong));
        }
        for (int wrong : NO_PLAYERS) {
            CHECK.leavesAll("region of player " + wrong, OUT_OF_BOUNDS, Boards::busy, x -> x.region(wrong, 1));
            CHECK.refused("of a stone", OUT_OF_BOUNDS, () -> Boards.busy().region(wrong, 7));
            CHECK.refused("of a block", OUT_OF_BOUNDS, () -> Boards.busy().region(wrong, 24));
            CHECK.refused("of no cell", OUT_OF_BOUNDS, () -> Boards.busy().region(wrong, 25));
        }
    }

    /** region "Throws NoSuchElementException if the cell is its own, or a block" */
    private static void regionOfOwnCells() {
        CHECK.leavesAll("a region of its stone", NO_SUCH, Boards::busy, x -> x.region(0, 7));
        CHECK.leavesAll("of 1 and its stone", NO_SUCH, Boards::busy, x -> x.region(1, 0));
        CHECK.leavesAll("of its area", NO_SUCH, Boards::busy, x -> x.region(0, 12));
        CHECK.leavesAll("of 1 and its area", NO_SUCH, Boards::withStruggle, x -> x.region(1, 13));
        CHECK.leavesAll("of a block", NO_SUCH, Boards::busy, x -> x.region(0, 24));
        CHECK.leavesAll("of 1 and a block", NO_SUCH, Boards::busy, x -> x.region(1, 24));
        EnclosureReferee x = Boards.busy();
        CHECK.same("a stone of the other", x.region(1, 7) >> 7 & 1, 1);
        CHECK.same("a stone of the other for 0", x.region(0, 0) & 1, 1);
        CHECK.same("an area of the other", x.region(1, 12) >> 12 & 1, 1);
        CHECK.same("an area of 1 for 0", Boards.withStruggle().region(0, 13), 3L << 12);
    }

    /** cells "state: the state, 0 to 5"; "Returns the set of cells.": empty sets, full ones, all bits. */
    private static void setsOfCells() {
        EnclosureReferee x = Boards.started(7, 7, 0);
        CHECK.same("all are empty", x.cells(0), (1L << 49) - 1);
        for (int state = 1; state <= 5; state++) {
            CHECK.same("none in state " + state, x.cells(state), 0);
        }
        for (int cell = 0; cell < 49; cell++) {
            x.play(cell, EnclosureReferee.PASS);
            CHECK.same("the first stones", x.cells(1), (2L << cell) - 1);
            CHECK.same("the rest", x.cells(0), (1L << 49) - (2L << cell));
        }
        CHECK.same("a block in the last cell", Boards.busy().cells(5), 1 << 24);
        CHECK.same("an area of 0", Boards.busy().cells(3), 1 << 12);
        CHECK.same("an area of 1", Boards.withStruggle().cells(4), 1 << 13);
    }

    /** cells "Throws IllegalArgumentException if there is no such state" */
    private static void cellsState() {
        for (int wrong : new int[] {-1, 6, 64, MIN, MAX}) {
            CHECK.leavesAll("state " + wrong, ILLEGAL, Boards::busy, x -> x.cells(wrong));
        }
    }

    /** "the largest set of connected stones of the same player that contains it": one stone, and all. */
    private static void chains() {
        EnclosureReferee x = Boards.started(7, 7, 0);
        for (int cell = 0; cell < 49; cell++) {
            x.play(cell, EnclosureReferee.PASS);
            CHECK.same("the chain of the first stone", x.chain(0), (2L << cell) - 1);
            CHECK.same("that of the latest one", x.chain(cell), (2L << cell) - 1);
        }
        EnclosureReferee y = Boards.busy();
        CHECK.same("a stone beside another's", Boards.placed("XO../..../..../....").chain(0), 1);
        CHECK.same("stones of a handicap", Boards.started(4, 4, 4).chain(5), 1 << 5 | 1 << 6 | 1 << 9 | 1 << 10);
        CHECK.same("an area does not connect", y.chain(7), 1 << 7);
    }

    /** chain "Throws IndexOutOfBoundsException if there is no such cell" */
    private static void chainOutside() {
        for (int wrong : NO_CELLS) {
            CHECK.leavesAll("chain of " + wrong, OUT_OF_BOUNDS, Boards::busy, x -> x.chain(wrong));
        }
    }

    /** chain "Throws NoSuchElementException if there is no stone" */
    private static void chainOfNoStone() {
        CHECK.leavesAll("chain of an empty cell", NO_SUCH, Boards::busy, x -> x.chain(1));
        CHECK.leavesAll("of an area of 0", NO_SUCH, Boards::busy, x -> x.chain(12));
        CHECK.leavesAll("of an area of 1", NO_SUCH, Boards::withStruggle, x -> x.chain(13));
        CHECK.leavesAll("of a block", NO_SUCH, Boards::busy, x -> x.chain(24));
    }

    /** stonesToEnclose "Returns the number, 0 to 2.": 0. */
    private static void noStoneEncloses() {
        EnclosureReferee x = Boards.walled();
        for (int cell = 11; cell <= 13; cell++) {
            CHECK.same("in walls", x.stonesToEnclose(0, cell), 0);
            CHECK.same("in walls for 1", x.stonesToEnclose(1, cell), 0);
        }
        EnclosureReferee y = Boards.withStruggle();
        CHECK.same("the other's area", y.stonesToEnclose(0, 13), 0);
        CHECK.same("an empty cell", y.stonesToEnclose(0, 12), 0);
    }

    /** 1: the only gap, next to the cell or far away, or a stone that parts the region. */
    private static void oneStoneEncloses() {
        EnclosureReferee x = Boards.placed("...../..X../.X.X./...../.....");
        CHECK.same("the fourth neighbor", x.stonesToEnclose(0, 12), 1);
        EnclosureReferee y = Boards.placed(RING_WITH_GAP);
        for (int cell : new int[] {8, 12, 24, 36, 40, 33}) {
            CHECK.same("the gap of a ring", y.stonesToEnclose(0, cell), 1);
        }
        EnclosureReferee z = Boards.placed("...../..X../.XOX./...../.....");
        CHECK.same("a stone of the other", z.stonesToEnclose(0, 12), 1);
        CHECK.same("with an empty cell", Boards.nearlyFull("b2 b1").stonesToEnclose(0, 5), 1);
        CHECK.same("and for 1", Boards.nearlyFull("b2 b1").stonesToEnclose(1, 5), 1);
    }

    /** 2: and not 1, as two cells are open. */
    private static void twoStonesEnclose() {
        EnclosureReferee x = Boards.placed("...../..X../.X.../...../.....");
        CHECK.same("two neighbors", x.stonesToEnclose(0, 12), 2);
        EnclosureReferee y = Boards.placed(RING_WITH_GAPS);
        CHECK.same("two gaps of a ring", y.stonesToEnclose(0, 24), 2);
        CHECK.same("two neighbors of a corner of it", y.stonesToEnclose(0, 8), 2);
        EnclosureReferee z = Boards.placed("..X../.X.X./.XOX./...../.....");
        CHECK.same("one round two cells", z.stonesToEnclose(0, 12), 1);
        z.undo();
        CHECK.same("two round them", z.stonesToEnclose(0, 12), 2);
    }

    /** "or more stones would be needed": 3 and 4. */
    private static void moreStonesWouldBeNeeded() {
        CHECK.leavesAll("three", NO_SUCH, () -> Boards.placed("...../..X../...../...../....."),
                x -> x.stonesToEnclose(0, 12));
        CHECK.leavesAll("four", NO_SUCH, EnclosureReferee::new, x -> x.stonesToEnclose(1, 12));
        CHECK.leavesAll("three gaps of a ring", NO_SUCH,
                () -> Boards.placed(".XXXX../X.....X/......X/X.....X/X.....X/X.....X/.XXXX.."),
                x -> x.stonesToEnclose(0, 24));
    }

    /** "or it cannot be": a cell at the edge, or no empty cell where a stone would be needed. */
    private static void cannotBeEnclosed() {
        EnclosureReferee x = Boards.placed(".X.../X..../...../...../.....");
        CHECK.refused("a corner in stones", NO_SUCH, () -> x.stonesToEnclose(0, 0));
        EnclosureReferee y = new EnclosureReferee();
        CHECK.same("a cross inside", Boards.play(y, "- c1, - b2, - d2, - a3, - e3, - b4, - d4, - c5"), 5);
        for (int cell : new int[] {0, 1, 3, 4, 5, 9, 15, 19, 20, 21, 23, 24}) {
            CHECK.refused("a small region at the edge", NO_SUCH, () -> y.stonesToEnclose(1, cell));
        }
        EnclosureReferee z = Boards.nearlyFull("b2 b1");
        CHECK.refused("an edge with a stone beside", NO_SUCH, () -> z.stonesToEnclose(0, 1));
        Boards.play(z, "- b1");
        CHECK.same("taken by 1", z.cell(1, 1), 4);
        CHECK.refused("no cell is empty", NO_SUCH, () -> z.stonesToEnclose(0, 5));
        EnclosureReferee v = Boards.placed("...../..X../.X.X./..O../.....");
        CHECK.refused("a stone of the other in the gap", NO_SUCH, () -> v.stonesToEnclose(0, 12));
        Boards.play(v, "b4 -");
        CHECK.same("two round this stone too", v.stonesToEnclose(0, 12), 2);
        Boards.play(v, "d4 -");
        CHECK.same("one behind it", v.stonesToEnclose(0, 12), 1);
    }

    /** "A stone that is placed on a cell itself does not enclose it." */
    private static void stoneOnTheCellItself() {
        EnclosureReferee x = Boards.placed("...../..X../.X.../...../.....");
        CHECK.same("two beside it, not one on it", x.stonesToEnclose(0, 12), 2);
        EnclosureReferee y = Boards.nearlyFull("b1 b2 c2 c1");
        CHECK.same("two at the edge", y.stonesToEnclose(0, 5), 2);
        Boards.play(y, "b1 -");
        CHECK.same("one beside it or behind it", y.stonesToEnclose(0, 5), 1);
        CHECK.refused("one on an edge", NO_SUCH, () -> y.stonesToEnclose(0, 2));
        EnclosureReferee z = new EnclosureReferee();
        for (int cell = 0; cell < 25; cell++) {
            int c = cell;
            CHECK.refused("on a new board", NO_SUCH, () -> z.stonesToEnclose(0, c));
        }
    }

    /** stonesToEnclose "Throws IndexOutOfBoundsException if there is no such player or cell", before all others. */
    private static void stonesOutside() {
        for (int wrong : NO_CELLS) {
            CHECK.leavesAll("stones round " + wrong, OUT_OF_BOUNDS, Boards::busy, x -> x.stonesToEnclose(0, wrong));
            CHECK.refused("for 1", OUT_OF_BOUNDS, () -> Boards.busy().stonesToEnclose(1, wrong));
        }
        for (int wrong : NO_PLAYERS) {
            CHECK.leavesAll("stones of " + wrong, OUT_OF_BOUNDS, Boards::busy, x -> x.stonesToEnclose(wrong, 18));
            CHECK.refused("round a block", OUT_OF_BOUNDS, () -> Boards.busy().stonesToEnclose(wrong, 24));
            CHECK.refused("round no cell", OUT_OF_BOUNDS, () -> Boards.busy().stonesToEnclose(wrong, 25));
        }
    }

    /** stonesToEnclose "Throws NoSuchElementException if the cell is its own, or a block": also in walls. */
    private static void stonesOfOwnCells() {
        CHECK.leavesAll("its stone", NO_SUCH, Boards::busy, x -> x.stonesToEnclose(0, 7));
        CHECK.leavesAll("a stone of 1", NO_SUCH, Boards::busy, x -> x.stonesToEnclose(1, 0));
        CHECK.leavesAll("its area", NO_SUCH, Boards::busy, x -> x.stonesToEnclose(0, 12));
        CHECK.leavesAll("its area in walls", NO_SUCH, Boards::withStruggle, x -> x.stonesToEnclose(1, 13));
        CHECK.leavesAll("a block", NO_SUCH, Boards::withStruggle, x -> x.stonesToEnclose(0, 6));
        CHECK.leavesAll("a block inside", NO_SUCH, () -> Boards.nearlyFull("b2"), x -> x.stonesToEnclose(1, 6));
    }

    /** share: "their number, as a double, divided by the number of cells": none, one, all; areas are own cells. */
    private static void shares() {
        for (int width = 4; width <= 7; width++) {
            EnclosureReferee x = Boards.started(width, 7, 0);
            double size = width * 7;
            CHECK.same("none", x.share(0), 0.0);
            for (int cell = 0; cell < width * 7; cell++) {
                x.play(cell, EnclosureReferee.PASS);
                CHECK.same("so many", x.share(0), (cell + 1) / size);
                CHECK.same("none of 1", x.share(1), 0.0);
            }
            CHECK.same("all", x.share(0), 1.0);
        }
        EnclosureReferee y = Boards.busy();
        CHECK.same("stones and an area", y.share(0), 6.0 / 25.0);
        CHECK.same("stones", y.share(1), 3.0 / 25.0);
        EnclosureReferee z = Boards.withStruggle();
        CHECK.same("an area of 0", z.share(0), 1.0 / 25.0);
        CHECK.same("an area of 1", z.share(1), 1.0 / 25.0);
    }

    /** share "Throws IndexOutOfBoundsException if there is no such player" */
    private static void shareOutside() {
        for (int wrong : NO_PLAYERS) {
            CHECK.leavesAll("share of " + wrong, OUT_OF_BOUNDS, Boards::busy, x -> (long) x.share(wrong));
        }
    }
}
