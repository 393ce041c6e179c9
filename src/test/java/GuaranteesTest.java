/** Promises 19 and 20: guarantee, best. */
public final class GuaranteesTest {
    private static final Check CHECK = new Check("GuaranteesTest");

    private GuaranteesTest() {
    }

    public static void main(String[] args) {
        guarantee();
        guaranteeWithRuleAndBonus();
        guaranteeLeavesTheGame();
        guaranteeRefuses();
        deep();
        deepEnds();
        passingEnds();
        best();
        bestRefuses();
        CHECK.end();
    }

    /** Player 0 needs c4 to capture the stone on c3. */
    private static EnclosureReferee beforeCapture() {
        EnclosureReferee x = Boards.withCapture();
        x.undo();
        return x;
    }

    private static void guarantee() {
        EnclosureReferee x = beforeCapture();
        CHECK.same("a clash would be a block, and captures too", x.guarantee(0, 17, 1), 3);
        CHECK.same("another cell", x.guarantee(0, 24, 1), 0);
        CHECK.same("passing", x.guarantee(0, -1, 1), 0);
        CHECK.same("the other captures", x.guarantee(1, 24, 1), -3);
        CHECK.same("the clash does not help", x.guarantee(1, 17, 1), -3);
        x.setRule(1);
        CHECK.same("the clash hinders", x.guarantee(0, 17, 1), 0);
        CHECK.same("and helps the other", x.guarantee(1, 17, 1), 0);
        CHECK.same("but passing does not", x.guarantee(1, -1, 1), -3);
    }

    private static void guaranteeWithRuleAndBonus() {
        EnclosureReferee x = beforeCapture();
        x.setRule(2);
        x.setBonus(0, 20);
        CHECK.same("the lower player gets the stone", x.guarantee(0, 17, 1), 20);
        CHECK.same("for player 1", x.guarantee(1, 17, 1), -20);
        x.setBonus(1, 20);
        CHECK.same("both have the same score", x.guarantee(0, 17, 1), 3);
        x.setBonus(0, 19);
        CHECK.same("player 0 gets the stone", x.guarantee(0, 17, 1), 2);
    }

    private static void guaranteeLeavesTheGame() {
        EnclosureReferee x = beforeCapture();
        String before = Boards.drawn(x) + Boards.written(x);
        x.guarantee(0, 17, 1);
        x.best(1, 1);
        CHECK.same("the game", Boards.drawn(x) + Boards.written(x), before);
        CHECK.same("captured", x.player(0, 3), 0);
        CHECK.same("clashes", x.count(5), 0);
        CHECK.same("waves", x.count(6), 0);
    }

    private static void guaranteeRefuses() {
        EnclosureReferee x = beforeCapture();
        CHECK.refused("player 2", IndexOutOfBoundsException.class, () -> x.guarantee(2, 0, 0));
        CHECK.refused("player -1", IndexOutOfBoundsException.class, () -> x.guarantee(-1, 3, 1));
        CHECK.refused("cell 25", IndexOutOfBoundsException.class, () -> x.guarantee(0, 25, 3));
        CHECK.refused("cell -2", IndexOutOfBoundsException.class, () -> x.guarantee(0, -2, 1));
        CHECK.refused("depth 0", IllegalArgumentException.class, () -> x.guarantee(0, 3, 0));
        CHECK.refused("depth 3 before a full cell", IllegalArgumentException.class, () -> x.guarantee(0, 7, 3));
        CHECK.refused("a full cell", IllegalStateException.class, () -> x.guarantee(0, 7, 1));
        CHECK.refused("too many empty cells", IllegalStateException.class, () -> x.guarantee(0, 3, 2));
        CHECK.same("no report", x.levels(), 0);
        Boards.play(x, "- -");
        CHECK.refused("over", IllegalStateException.class, () -> x.guarantee(0, 3, 1));
    }

    private static void deep() {
        EnclosureReferee x = Boards.nearlyFull("b2 b3 b4 c4 d4 c3 d3");
        CHECK.refused("seven empty cells", IllegalStateException.class, () -> x.guarantee(0, 5, 2));
        CHECK.refused("best with seven empty cells", IllegalStateException.class, () -> x.best(0, 2));
        Boards.play(x, "d3 -");
        CHECK.same("six empty cells", x.guarantee(0, 10, 2), deepByHand(x, 0, 10));
        CHECK.same("passing", x.guarantee(0, -1, 2), deepByHand(x, 0, -1));
        CHECK.same("b2", x.guarantee(0, 5, 2), deepByHand(x, 0, 5));
        CHECK.same("b4", x.guarantee(0, 13, 2), deepByHand(x, 0, 13));
    }

    /** The depth 2 as the document says it, played out with the rounds themselves. */
    private static int deepByHand(EnclosureReferee x, int player, int choice) {
        int least = Integer.MAX_VALUE;
        for (int reply = -1; reply < 16; reply++) {
            if (reply == -1 || (x.cells(0) >> reply & 1) != 0) {
                x.play(player == 0 ? choice : reply, player == 0 ? reply : choice);
                int value = x.player(player, 0) - x.player(1 - player, 0);
                if (!x.isOver()) {
                    value = Integer.MIN_VALUE;
                    for (int next = -1; next < 16; next++) {
                        if (next == -1 || (x.cells(0) >> next & 1) != 0) {
                            value = Math.max(value, x.guarantee(player, next, 1));
                        }
                    }
                }
                least = Math.min(least, value);
                x.undo();
            }
        }
        return least;
    }

    /** In the round after the next one, player 1 would lose 6 points; it does not come if the game ends before. */
    private static void deepEnds() {
        EnclosureReferee x = Boards.started(4, 4, 0);
        Boards.play(x, "b2 b2, a4 a4, c4 d4, b1 b1, c1 d1, d3 a1, a3 c3");
        CHECK.same("the board", Boards.drawn(x), "O#XO/.#../X.OX/#.XO");
        x.setRule(1);
        CHECK.same("depth 1", x.guarantee(1, 6, 1), 0);
        CHECK.same("depth 2", x.guarantee(1, 6, 2), -6);
        CHECK.same("depth 2 played out", deepByHand(x, 1, 6), -6);
        while (x.count(0) < 58) {
            Boards.play(x, "a2 a2");
        }
        CHECK.same("58 rounds", x.guarantee(1, 6, 2), -6);
        Boards.play(x, "a2 a2");
        CHECK.same("59 rounds", x.guarantee(1, 6, 2), 0);
        EnclosureReferee y = Boards.nearlyFull("a1 b2");
        CHECK.same("the last cells", y.guarantee(0, 0, 2), deepByHand(y, 0, 0));
        CHECK.same("the last cells of the middle", y.guarantee(0, 5, 2), deepByHand(y, 0, 5));
    }

    /** A stone in b2 would be lost, but after both have passed nobody has to place it. */
    private static void passingEnds() {
        EnclosureReferee x = Boards.nearlyFull("b2");
        CHECK.same("no later round", x.guarantee(0, -1, 2), 0);
        CHECK.same("played out", deepByHand(x, 0, -1), 0);
        x.setBonus(1, 3);
        CHECK.same("with a bonus", x.guarantee(1, -1, 2), 3);
    }

    private static void best() {
        EnclosureReferee x = beforeCapture();
        CHECK.same("the capture", x.best(0, 1), 17);
        CHECK.same("the first of all cells", x.best(1, 1), 1);
        x.setRule(1);
        CHECK.same("only the clash helps", x.best(1, 1), 17);
        EnclosureReferee y = new EnclosureReferee();
        CHECK.same("a cell before passing", y.best(0, 1), 0);
        EnclosureReferee z = Boards.nearlyFull("b2");
        CHECK.same("a stone in walls is lost", z.guarantee(0, 5, 1), -1);
        CHECK.same("passing is better", z.best(0, 1), -1);
        CHECK.same("for the other too, and deeper", z.best(1, 2), -1);
        EnclosureReferee w = Boards.nearlyFull("b2 a1");
        CHECK.same("as good as passing", w.best(0, 2), 0);
    }

    private static void bestRefuses() {
        EnclosureReferee x = beforeCapture();
        CHECK.refused("player 2", IndexOutOfBoundsException.class, () -> x.best(2, 0));
        CHECK.refused("player -1", IndexOutOfBoundsException.class, () -> x.best(-1, 1));
        CHECK.refused("depth 0", IllegalArgumentException.class, () -> x.best(0, 0));
        CHECK.refused("depth 3", IllegalArgumentException.class, () -> x.best(1, 3));
        CHECK.refused("too many empty cells", IllegalStateException.class, () -> x.best(0, 2));
        Boards.play(x, "- -");
        CHECK.refused("over", IllegalStateException.class, () -> x.best(0, 1));
        CHECK.refused("depth before over", IllegalArgumentException.class, () -> x.best(0, 3));
    }
}
