import java.util.NoSuchElementException;

/** Promises 8 to 16: cell, since, count, player, region, cells, chain, stonesToEnclose, share. */
public final class PositionTest {
    private static final Check CHECK = new Check("PositionTest");

    private PositionTest() {
    }

    public static void main(String[] args) {
        cell();
        since();
        sinceLatestWave();
        count();
        player();
        region();
        cells();
        chain();
        stonesToEnclose();
        stonesToEncloseRefuses();
        share();
        CHECK.end();
    }

    private static void cell() {
        EnclosureReferee x = Boards.started(7, 4, 0);
        Boards.play(x, "g4 b3, a1 a1");
        CHECK.same("cell(6, 3)", x.cell(6, 3), 1);
        CHECK.same("cell(1, 2)", x.cell(1, 2), 2);
        CHECK.same("cell(0, 0)", x.cell(0, 0), 5);
        CHECK.same("cell(2, 1)", x.cell(2, 1), 0);
        CHECK.refused("cell(7, 0)", IndexOutOfBoundsException.class, () -> x.cell(7, 0));
        CHECK.refused("cell(0, 4)", IndexOutOfBoundsException.class, () -> x.cell(0, 4));
        CHECK.refused("cell(-1, 1)", IndexOutOfBoundsException.class, () -> x.cell(-1, 1));
        CHECK.refused("cell(1, -1)", IndexOutOfBoundsException.class, () -> x.cell(1, -1));
        CHECK.refused("cell of great ints", IndexOutOfBoundsException.class,
                () -> x.cell(Integer.MAX_VALUE, Integer.MIN_VALUE));
        EnclosureReferee y = Boards.withCapture();
        CHECK.same("area of player 0", y.cell(2, 2), 3);
        CHECK.same("area of player 1", Boards.withStruggle().cell(3, 2), 4);
    }

    private static void since() {
        EnclosureReferee x = Boards.withCapture();
        CHECK.same("a captured cell", x.since(12, 0), 3);
        CHECK.same("its wave", x.since(12, 1), 0);
        CHECK.same("a stone", x.since(11, 0), 1);
        CHECK.same("no wave", x.since(11, 1), -1);
        CHECK.same("an empty cell", x.since(24, 0), -1);
        CHECK.same("no wave either", x.since(24, 1), -1);
        x.setRule(1);
        Boards.play(x, "e5 e5");
        CHECK.same("a clash without effect", x.since(24, 0), -1);
        x.setRule(0);
        Boards.play(x, "e5 e5");
        CHECK.same("a block", x.since(24, 0), 5);
        CHECK.refused("cell 25", IndexOutOfBoundsException.class, () -> x.since(25, 0));
        CHECK.refused("cell -1", IndexOutOfBoundsException.class, () -> x.since(-1, 2));
        CHECK.refused("what 2", IllegalArgumentException.class, () -> x.since(24, 2));
        CHECK.refused("what -1", IllegalArgumentException.class, () -> x.since(0, -1));
        CHECK.same("a handicap stone", Boards.started(4, 4, 1).since(5, 0), -1);
    }

    private static void sinceLatestWave() {
        EnclosureReferee x = Boards.withStruggle();
        CHECK.same("the round of the struggle", x.since(11, 0), 8);
        CHECK.same("the latest of its waves", x.since(11, 1), 7);
        CHECK.same("nobody gets c3", x.since(12, 0), -1);
        Boards.play(x, "- a1");
        CHECK.same("the next round", x.since(13, 0), 9);
        x.undo();
        CHECK.same("taken back", x.since(13, 0), 8);
    }

    private static void count() {
        EnclosureReferee x = Boards.started(7, 6, 2);
        CHECK.same("width", x.count(1), 7);
        CHECK.same("height", x.count(2), 6);
        CHECK.same("empty cells", x.count(3), 40);
        Boards.play(x, "a1 a1, b1 b1, c1 d1");
        x.setRule(1);
        Boards.play(x, "e1 e1, - -");
        CHECK.same("rounds", x.count(0), 5);
        CHECK.same("empty cells after rounds", x.count(3), 36);
        CHECK.same("blocks", x.count(4), 2);
        CHECK.same("clashes", x.count(5), 3);
        CHECK.same("no waves", x.count(6), 0);
        CHECK.same("a wave", Boards.withCapture().count(6), 1);
        CHECK.same("eight waves", Boards.withStruggle().count(6), 8);
        CHECK.refused("what 7", IllegalArgumentException.class, () -> x.count(7));
        CHECK.refused("what -1", IllegalArgumentException.class, () -> x.count(-1));
    }

    private static void player() {
        EnclosureReferee x = Boards.withCapture();
        x.setBonus(0, 5);
        x.setBonus(1, 6);
        Boards.play(x, "- b1, - -");
        int[] of0 = {8, 4, 1, 1, 5, 2, 1, 20};
        int[] of1 = {6, 4, 0, 0, 6, 1, 1, 21};
        for (int what = 0; what < 8; what++) {
            CHECK.same("player(0, " + what + ")", x.player(0, what), of0[what]);
            CHECK.same("player(1, " + what + ")", x.player(1, what), of1[what]);
        }
        EnclosureReferee z = new EnclosureReferee();
        Boards.play(z, "a1 -, - b1, - c1, - -");
        CHECK.same("passes of player 0", z.player(0, 5), 3);
        CHECK.same("passes of player 1", z.player(1, 5), 2);
        CHECK.refused("player 2", IndexOutOfBoundsException.class, () -> x.player(2, 0));
        CHECK.refused("player -1", IndexOutOfBoundsException.class, () -> x.player(-1, 8));
        CHECK.refused("what 8", IllegalArgumentException.class, () -> x.player(0, 8));
        CHECK.refused("what -1", IllegalArgumentException.class, () -> x.player(1, -1));
        EnclosureReferee y = Boards.started(4, 4, 0);
        Boards.play(y, "b1 -, b2 -, b3 -, b4 -");
        CHECK.same("two regions", y.player(0, 6), 2);
        CHECK.same("the larger one", y.player(0, 7), 8);
        for (int cell = 0; cell < 16; cell++) {
            if (cell % 4 != 1) {
                y.play(cell, cell);
            }
        }
        CHECK.same("no region", y.player(0, 6), 0);
        CHECK.same("no cells in it", y.player(0, 7), 0);
        CHECK.same("a region of the other's stones", y.player(1, 7), 4);
    }

    private static void region() {
        EnclosureReferee x = Boards.started(4, 4, 0);
        Boards.play(x, "b1 d1, b2 -, b3 c4, b4 b4");
        CHECK.same("the left column", x.region(0, 4), Boards.set(x, "a1 a2 a3 a4"));
        CHECK.same("the right half with stones of player 1", x.region(0, 3),
                Boards.set(x, "c1 d1 c2 d2 c3 d3 c4 d4"));
        CHECK.same("the region of player 1", x.region(1, 1), 0xffff & ~Boards.set(x, "d1 c4 b4"));
        CHECK.refused("its own", NoSuchElementException.class, () -> x.region(0, 1));
        CHECK.refused("a block", NoSuchElementException.class, () -> x.region(1, 13));
        CHECK.refused("player 2", IndexOutOfBoundsException.class, () -> x.region(2, 0));
        CHECK.refused("player -1", IndexOutOfBoundsException.class, () -> x.region(-1, 0));
        CHECK.refused("cell 16", IndexOutOfBoundsException.class, () -> x.region(0, 16));
        CHECK.refused("cell -1", IndexOutOfBoundsException.class, () -> x.region(1, -1));
        CHECK.refused("cell 64", IndexOutOfBoundsException.class, () -> x.region(1, 64));
        EnclosureReferee y = Boards.started(7, 7, 0);
        CHECK.same("all of 7 by 7", y.region(0, 48), (1L << 49) - 1);
        EnclosureReferee z = Boards.withCapture();
        CHECK.refused("its own area", NoSuchElementException.class, () -> z.region(0, 12));
        CHECK.same("an area of the other", z.region(1, 12) >> 12 & 1, 1);
    }

    private static void cells() {
        EnclosureReferee x = Boards.withCapture();
        Boards.play(x, "e5 e5");
        CHECK.same("cells(1)", x.cells(1), Boards.set(x, "c2 b3 d3 c4"));
        CHECK.same("cells(2)", x.cells(2), Boards.set(x, "a1 e1 a5"));
        CHECK.same("cells(3)", x.cells(3), Boards.set(x, "c3"));
        CHECK.same("cells(4)", x.cells(4), 0);
        CHECK.same("cells(5)", x.cells(5), Boards.set(x, "e5"));
        CHECK.same("cells(0)", x.cells(0), (1L << 25) - 1 - x.cells(1) - x.cells(2) - x.cells(3) - x.cells(5));
        CHECK.same("cells(4) of another game", Boards.withStruggle().cells(4), 1 << 13);
        CHECK.refused("cells(6)", IllegalArgumentException.class, () -> x.cells(6));
        CHECK.refused("cells(-1)", IllegalArgumentException.class, () -> x.cells(-1));
    }

    private static void chain() {
        EnclosureReferee x = new EnclosureReferee();
        Boards.play(x, "a1 c1, b1 c2, b2 d1, d2 e1, e5 a2");
        CHECK.same("chain of player 0", x.chain(0), Boards.set(x, "a1 b1 b2"));
        CHECK.same("the same chain", x.chain(6), x.chain(0));
        CHECK.same("chain of player 1", x.chain(4), Boards.set(x, "c1 c2 d1 e1"));
        CHECK.same("not round the edge", x.chain(5), Boards.set(x, "a2"));
        CHECK.same("a stone alone", x.chain(24), 1 << 24);
        CHECK.refused("an empty cell", NoSuchElementException.class, () -> x.chain(12));
        CHECK.refused("cell 25", IndexOutOfBoundsException.class, () -> x.chain(25));
        CHECK.refused("cell -1", IndexOutOfBoundsException.class, () -> x.chain(-1));
        EnclosureReferee y = Boards.withCapture();
        Boards.play(y, "e5 e5");
        CHECK.same("an area does not connect stones", y.chain(7), 1 << 7);
        CHECK.refused("an area", NoSuchElementException.class, () -> y.chain(12));
        CHECK.refused("a block", NoSuchElementException.class, () -> y.chain(24));
    }

    private static void stonesToEnclose() {
        EnclosureReferee x = new EnclosureReferee();
        Boards.play(x, "c2 -, b3 c3");
        CHECK.same("two stones around a stone", x.stonesToEnclose(0, 12), 2);
        Boards.play(x, "d3 -");
        CHECK.same("one stone", x.stonesToEnclose(0, 12), 1);
        EnclosureReferee y = new EnclosureReferee();
        Boards.play(y, "c2 c2, b3 b3, d3 d3, c4 c4");
        CHECK.same("none for player 0", y.stonesToEnclose(0, 12), 0);
        CHECK.same("none for player 1", y.stonesToEnclose(1, 12), 0);
        EnclosureReferee z = new EnclosureReferee();
        Boards.play(z, "b2 -, c1 -, d2 -, d3 -, b3 -");
        CHECK.same("a stone in the next cell counts as a wall", z.stonesToEnclose(0, 7), 1);
        CHECK.same("so it does for the next cell", z.stonesToEnclose(0, 12), 1);
        EnclosureReferee w = Boards.walled();
        CHECK.same("a larger walled region", w.stonesToEnclose(1, 11), 0);
        EnclosureReferee v = Boards.withCapture();
        Boards.play(v, "- c1, - b2, - d2, - a3, - b4");
        CHECK.refused("three around the other's area", NoSuchElementException.class, () -> v.stonesToEnclose(1, 12));
        Boards.play(v, "- d4");
        CHECK.same("two", v.stonesToEnclose(1, 12), 2);
        CHECK.same("two for its stones too", v.stonesToEnclose(1, 13), 2);
        Boards.play(v, "- c5");
        CHECK.same("one", v.stonesToEnclose(1, 12), 1);
        Boards.play(v, "e3 -");
        CHECK.refused("not on a full cell", NoSuchElementException.class, () -> v.stonesToEnclose(1, 12));
    }

    private static void stonesToEncloseRefuses() {
        EnclosureReferee x = Boards.withCapture();
        Boards.play(x, "e5 e5");
        CHECK.refused("more than 2 stones", NoSuchElementException.class, () -> x.stonesToEnclose(1, 16));
        CHECK.refused("a cell at the edge", NoSuchElementException.class, () -> x.stonesToEnclose(1, 1));
        CHECK.refused("its own stone", NoSuchElementException.class, () -> x.stonesToEnclose(0, 7));
        CHECK.refused("its own area", NoSuchElementException.class, () -> x.stonesToEnclose(0, 12));
        CHECK.refused("a block", NoSuchElementException.class, () -> x.stonesToEnclose(0, 24));
        CHECK.refused("player 2", IndexOutOfBoundsException.class, () -> x.stonesToEnclose(2, 12));
        CHECK.refused("player -1", IndexOutOfBoundsException.class, () -> x.stonesToEnclose(-1, 12));
        CHECK.refused("cell 25", IndexOutOfBoundsException.class, () -> x.stonesToEnclose(0, 25));
        CHECK.refused("cell -1", IndexOutOfBoundsException.class, () -> x.stonesToEnclose(0, -1));
    }

    private static void share() {
        EnclosureReferee x = Boards.withCapture();
        CHECK.same("share(0)", x.share(0), 5.0 / 25.0);
        CHECK.same("share(1)", x.share(1), 3.0 / 25.0);
        CHECK.same("share of nothing", Boards.started(7, 7, 0).share(0), 0.0);
        CHECK.same("share of a handicap", Boards.started(7, 6, 4).share(1), 4.0 / 42.0);
        CHECK.refused("player 2", IndexOutOfBoundsException.class, () -> (long) x.share(2));
        CHECK.refused("player -1", IndexOutOfBoundsException.class, () -> (long) x.share(-1));
    }
}
