/** Promises 19 and 20: guarantee, best. */
public final class GuaranteesTest {
    private static final Check CHECK = new Check("GuaranteesTest");

    private GuaranteesTest() {
    }

    public static void main(String[] args) {
        guarantee();
        guaranteeWithRuleAndBonus();
        guaranteeLeavesTheGame();
        guaranteeRefuses();
        deep();
        deepEnds();
        best();
        bestRefuses();
        CHECK.end();
    }

    /** Player 0 needs c4 to capture the stone on c3. */
    private static EnclosureReferee beforeCapture() {
        EnclosureReferee x = Boards.withCapture();
        x.undo();
        return x;
    }

    private static void guarantee() {
        EnclosureReferee x = beforeCapture();
        CHECK.same("a clash would be a block, and captures too", x.guarantee(0, 17, 1), 3);
        CHECK.same("another cell", x.guarantee(0, 24, 1), 0);
        CHECK.same("passing", x.guarantee(0, -1, 1), 0);
        CHECK.same("the other captures", x.guarantee(1, 24, 1), -3);
        CHECK.same("the clash does not help", x.guarantee(1, 17, 1), -3);
        x.setRule(1);
        CHECK.same("the clash hinders", x.guarantee(0, 17, 1), 0);
        CHECK.same("and helps the other", x.guarantee(1, 17, 1), 0);
        CHECK.same("but passing does not", x.guarantee(1, -1, 1), -3);
    }

    private static void guaranteeWithRuleAndBonus() {
        EnclosureReferee x = beforeCapture();
        x.setRule(2);
        x.setBonus(0, 20);
        CHECK.same("the lower player gets the stone", x.guarantee(0, 17, 1), 20);
        CHECK.same("for player 1", x.guarantee(1, 17, 1), -20);
        x.setBonus(1, 20);
        CHECK.same("both have the same score", x.guarantee(0, 17, 1), 3);
        x.setBonus(0, 19);
        CHECK.same("player 0 gets the stone", x.guarantee(0, 17, 1), 2);
    }

    private static void guaranteeLeavesTheGame() {
        EnclosureReferee x = beforeCapture();
        String before = Boards.drawn(x) + Boards.written(x);
        x.guarantee(0, 17, 1);
        x.best(1, 1);
        CHECK.same("the game", Boards.drawn(x) + Boards.written(x), before);
        CHECK.same("captured", x.player(0, 3), 0);
        CHECK.same("clashes", x.count(5), 0);
        CHECK.same("waves", x.count(6), 0);
    }

    private static void guaranteeRefuses() {
        EnclosureReferee x = beforeCapture();
        CHECK.refused("player 2", IndexOutOfBoundsException.class, () -> x.guarantee(2, 0, 0));
        CHECK.refused("player -1", IndexOutOfBoundsException.class, () -> x.guarantee(-1, 3, 1));
        CHECK.refused("cell 25", IndexOutOfBoundsException.class, () -> x.guarantee(0, 25, 3));
        CHECK.refused("cell -2", IndexOutOfBoundsException.class, () -> x.guarantee(0, -2, 1));
        CHECK.refused("depth 0", IllegalArgumentException.class, () -> x.guarantee(0, 3, 0));
        CHECK.refused("depth 3 before a full cell", IllegalArgumentException.class, () -> x.guarantee(0, 7, 3));
        CHECK.refused("a full cell", IllegalStateException.class, () -> x.guarantee(0, 7, 1));
        CHECK.refused("too many empty cells", IllegalStateException.class, () -> x.guarantee(0, 3, 2));
        CHECK.same("no report", x.levels(), 0);
        Boards.play(x, "- -");
        CHECK.refused("over", IllegalStateException.class, () -> x.guarantee(0, 3, 1));
    }

    /** A board of 4 by 4 where only b3, c3, c4, d4 and the like are empty; the other cells are blocks. */
    private static EnclosureReferee nearlyFull(String empties) {
        EnclosureReferee x = Boards.started(4, 4, 0);
        for (int cell = 0; cell < 16; cell++) {
            String name = "" + (char) ('a' + cell % 4) + (char) ('1' + cell / 4);
            if (!empties.contains(name)) {
                x.play(cell, cell);
            }
        }
        return x;
    }

    private static void deep() {
        EnclosureReferee x = nearlyFull("b2 b3 b4 c4 d4 c3 d3");
        CHECK.refused("seven empty cells", IllegalStateException.class, () -> x.guarantee(0, 5, 2));
        CHECK.refused("best with seven empty cells", IllegalStateException.class, () -> x.best(0, 2));
        Boards.play(x, "d3 -");
        CHECK.same("six empty cells: c3 closes two", x.guarantee(0, 10, 2), deepByHand(x, 10));
        CHECK.same("passing", x.guarantee(0, -1, 2), deepByHand(x, -1));
        CHECK.same("b2", x.guarantee(0, 5, 2), deepByHand(x, 5));
        CHECK.same("b4", x.guarantee(0, 13, 2), deepByHand(x, 13));
    }

    /** The depth 2 as the document says it, played out with the rounds themselves. */
    private static int deepByHand(EnclosureReferee x, int choice) {
        int least = Integer.MAX_VALUE;
        for (int reply = -1; reply < 16; reply++) {
            if (reply == -1 || (x.cells(0) >> reply & 1) != 0) {
                x.play(choice, reply);
                int value = x.player(0, 0) - x.player(1, 0);
                if (!x.isOver()) {
                    value = Integer.MIN_VALUE;
                    for (int next = -1; next < 16; next++) {
                        if (next == -1 || (x.cells(0) >> next & 1) != 0) {
                            value = Math.max(value, x.guarantee(0, next, 1));
                        }
                    }
                }
                least = Math.min(least, value);
                x.undo();
            }
        }
        return least;
    }

    /** With c3 and b3 walled but for b4, a stone there is worth points in a round that may not come. */
    private static void deepEnds() {
        EnclosureReferee x = nearlyFull("b3 b4 a1");
        x.undo();
        x.undo();
        Boards.play(x, "- d4");
        x.setRule(1);
        CHECK.same("both pass, and the game ends", x.guarantee(0, -1, 2), deepByHand(x, -1));
        int filler = 60 - x.count(0) - 1;
        for (int round = 0; round < filler; round++) {
            Boards.play(x, "a1 a1");
        }
        CHECK.same("59 rounds", x.count(0), 59);
        CHECK.same("after the 60th the game is over", x.guarantee(0, 0, 2), x.guarantee(0, 0, 1));
        CHECK.same("played out", x.guarantee(0, 0, 2), deepByHand(x, 0));
        EnclosureReferee y = nearlyFull("a1 b2");
        CHECK.same("the last cells", y.guarantee(0, 0, 2), deepByHand(y, 0));
        CHECK.same("the last cells of the middle", y.guarantee(0, 5, 2), deepByHand(y, 5));
    }

    private static void best() {
        EnclosureReferee x = beforeCapture();
        CHECK.same("the capture", x.best(0, 1), 17);
        CHECK.same("the first of all cells", x.best(1, 1), 1);
        x.setRule(1);
        CHECK.same("only the clash helps", x.best(1, 1), 17);
        EnclosureReferee y = new EnclosureReferee();
        CHECK.same("a cell before passing", y.best(0, 1), 0);
        EnclosureReferee z = nearlyFull("b2");
        CHECK.same("a stone in walls is lost", z.guarantee(0, 5, 1), -1);
        CHECK.same("passing is better", z.best(0, 1), -1);
        CHECK.same("for the other too, and deeper", z.best(1, 2), -1);
        EnclosureReferee w = nearlyFull("b2 a1");
        CHECK.same("as good as passing", w.best(0, 2), 0);
    }

    private static void bestRefuses() {
        EnclosureReferee x = beforeCapture();
        CHECK.refused("player 2", IndexOutOfBoundsException.class, () -> x.best(2, 0));
        CHECK.refused("player -1", IndexOutOfBoundsException.class, () -> x.best(-1, 1));
        CHECK.refused("depth 0", IllegalArgumentException.class, () -> x.best(0, 0));
        CHECK.refused("depth 3", IllegalArgumentException.class, () -> x.best(1, 3));
        CHECK.refused("too many empty cells", IllegalStateException.class, () -> x.best(0, 2));
        Boards.play(x, "- -");
        CHECK.refused("over", IllegalStateException.class, () -> x.best(0, 1));
        CHECK.refused("depth before over", IllegalArgumentException.class, () -> x.best(0, 3));
    }
}
