/** The boundary cases that the document's sentences name: promises 19 and 20. */
public final class GuaranteeBoundsTest {
    private static final Check CHECK = new Check("GuaranteeBoundsTest");
    private static final int MIN = Integer.MIN_VALUE;
    private static final int MAX = Integer.MAX_VALUE;
    private static final Class<IndexOutOfBoundsException> OUT_OF_BOUNDS = IndexOutOfBoundsException.class;
    private static final Class<IllegalArgumentException> ILLEGAL = IllegalArgumentException.class;
    private static final Class<IllegalStateException> STATE = IllegalStateException.class;

    private GuaranteeBoundsTest() {
    }

    public static void main(String[] args) {
        outcomes();
        choices();
        passingIsAReply();
        theSameCellIsAReply();
        anotherCellIsAReply();
        ruleOfNow();
        bonusesOfNow();
        passingIsAReplyDeeper();
        passingIsALaterChoice();
        overAfterTheRound();
        overAfterSixtyRounds();
        sixAndSevenEmptyCells();
        nothingChanges();
        playerOutside();
        choiceOutside();
        depthOutside();
        overAlready();
        cellNotEmpty();
        tooManyEmptyCells();
        refusedInOrder();
        firstCellOfSeveral();
        lastCell();
        passingOnlyIfGreater();
        bestByDepth();
        bestRefused();
        bestRefusedInOrder();
        CHECK.end();
    }

    private static EnclosureReferee beforeCapture() {
        EnclosureReferee x = Boards.withCapture();
        x.undo();
        return x;
    }

    /**
     * "The outcome of a position for a player is its score minus that of the other player.": the same with its sign.
     */
    private static void outcomes() {
        EnclosureReferee x = new EnclosureReferee();
        for (int bonus = 0; bonus <= 20; bonus += 4) {
            x.setBonus(0, bonus);
            x.setBonus(1, 20 - bonus);
            CHECK.same("for player 0", x.guarantee(0, 24, 1), 2 * bonus - 20);
            CHECK.same("for player 1", x.guarantee(1, 24, 1), 20 - 2 * bonus);
        }
    }

    /**
     * "choice: the choice, a cell or PASS": the first cell, the last one, passing, on the smallest and largest board.
     */
    private static void choices() {
        for (int side = 4; side <= 7; side++) {
            EnclosureReferee x = Boards.started(side, side, 0);
            for (int player = 0; player <= 1; player++) {
                CHECK.same("the first cell", x.guarantee(player, 0, 1), 0);
                CHECK.same("the last cell", x.guarantee(player, side * side - 1, 1), 0);
                CHECK.same("passing", x.guarantee(player, EnclosureReferee.PASS, 1), 0);
            }
        }
    }

    /** "over all choices of the other player, passing included": every stone of it would be lost. */
    private static void passingIsAReply() {
        EnclosureReferee x = Boards.nearlyFull("b2");
        CHECK.same("a stone in b2 is lost", playedOut(x, 0, -1, 5), 1);
        CHECK.same("passing is not", playedOut(x, 0, -1, -1), 0);
        CHECK.same("so it is the least", x.guarantee(0, -1, 1), 0);
        CHECK.same("for player 1", x.guarantee(1, -1, 1), 0);
    }

    /** The outcome for a player after a round, which is taken back. */
    private static int playedOut(EnclosureReferee x, int player, int choice, int reply) {
        x.play(player == 0 ? choice : reply, player == 0 ? reply : choice);
        int outcome = x.player(player, 0) - x.player(1 - player, 0);
        x.undo();
        return outcome;
    }

    /** "over all choices of the other player": a clash is the worst, where the block closes a region of the other. */
    private static void theSameCellIsAReply() {
        EnclosureReferee x = Boards.started(4, 4, 0);
        Boards.play(x, "b1 b1, d3 d3, a4 c4, c1 c2");
        CHECK.same("b3 is the last gap of c3", Boards.drawn(x), ".#X./..O./...#/X.O.");
        CHECK.same("with a clash", x.guarantee(0, 9, 1), -1);
        x.setRule(1);
        CHECK.same("nothing happens", x.guarantee(0, 9, 1), 0);
        EnclosureReferee y = Boards.started(4, 4, 0);
        Boards.play(y, "b2 a2, a3 a3, c3 c3");
        CHECK.same("with a clash for 1", y.guarantee(1, 13, 1), -1);
    }

    /** A reply on the first and on the last cell that the board has: no corner can do harm, but a stone beside does. */
    private static void anotherCellIsAReply() {
        EnclosureReferee x = beforeCapture();
        CHECK.same("the reply c4", x.guarantee(1, 24, 1), -3);
        CHECK.same("against it", x.guarantee(1, 17, 1), -3);
        EnclosureReferee y = Boards.placed(".X../X.../.#.#/..##");
        CHECK.same("the reply b1", y.guarantee(0, 0, 1), leastPlayedOut(y, 0, 0));
        for (int cell = 0; cell < 16; cell++) {
            if ((y.cells(0) >> cell & 1) != 0) {
                CHECK.same("a choice of 0", y.guarantee(0, cell, 1), leastPlayedOut(y, 0, cell));
                CHECK.same("a choice of 1", y.guarantee(1, cell, 1), leastPlayedOut(y, 1, cell));
            }
        }
    }

    private static int leastPlayedOut(EnclosureReferee x, int player, int choice) {
        int least = playedOut(x, player, choice, -1);
        for (int reply = 0; reply < x.count(1) * x.count(2); reply++) {
            if ((x.cells(0) >> reply & 1) != 0) {
                least = Math.min(least, playedOut(x, player, choice, reply));
            }
        }
        return least;
    }

    /** "Guarantees are found with the rule ... as they are now." */
    private static void ruleOfNow() {
        EnclosureReferee x = beforeCapture();
        int[] due = {3, 0, 3};
        for (int rule = 0; rule <= 2; rule++) {
            x.setRule(rule);
            CHECK.same("with the rule " + rule, x.guarantee(0, 17, 1), due[rule]);
        }
        x.setBonus(0, 1);
        CHECK.same("the other one is lower", x.guarantee(0, 17, 1), 1);
    }

    /** "Guarantees are found with ... the bonuses as they are now." */
    private static void bonusesOfNow() {
        EnclosureReferee x = beforeCapture();
        x.setBonus(0, 20);
        CHECK.same("the greatest of 0", x.guarantee(0, 17, 1), 23);
        x.setBonus(0, 0);
        x.setBonus(1, 20);
        CHECK.same("the greatest of 1", x.guarantee(0, 17, 1), -17);
        x.setBonus(1, 0);
        CHECK.same("none", x.guarantee(0, 17, 1), 3);
        EnclosureReferee y = Boards.nearlyFull("a1 b2");
        y.setBonus(1, 20);
        CHECK.same("deeper", y.guarantee(1, -1, 2), 20);
    }

    /** Depth 2, "over these choices": passing too, which ends the game before player 0 captures. */
    private static void passingIsAReplyDeeper() {
        EnclosureReferee x = Boards.started(4, 4, 0);
        Boards.play(x, "b4 a4, c1 a1, b1 a3, d3 c4, d2 b2, a2 a2, b3 d1");
        CHECK.same("the board", Boards.drawn(x), "OXXO/#O.X/OX.X/OXO.");
        CHECK.same("player 0 captures b2 and c2 next", x.guarantee(0, 10, 1), 4);
        CHECK.same("but not if it passes and the other one too", x.guarantee(0, -1, 2), 0);
    }

    /** "the greatest guarantee with the depth 1 of the choices that the player has there, passing included" */
    private static void passingIsALaterChoice() {
        EnclosureReferee x = Boards.nearlyFull("a1 b2");
        CHECK.same("a stone in b2 would be lost later", x.guarantee(0, 0, 2), 0);
        CHECK.same("so it would for 1", x.guarantee(1, 0, 2), 0);
        CHECK.same("or lost now", x.guarantee(0, 5, 2), -1);
    }

    /** "the value of a position in which the game is over is its outcome": both passed, or a full board. */
    private static void overAfterTheRound() {
        EnclosureReferee x = Boards.nearlyFull("b2");
        CHECK.same("both pass, or b2 is lost for 1", x.guarantee(0, -1, 2), 0);
        CHECK.same("a clash in b2, or it is lost", x.guarantee(0, 5, 2), -1);
        CHECK.same("as with the depth 1", x.guarantee(0, 5, 1), -1);
        EnclosureReferee y = Boards.nearlyFull("a1");
        y.setBonus(0, 7);
        CHECK.same("full after it", y.guarantee(0, 0, 2), 7);
    }

    /** The same after 60 rounds: round 59 has no later one, round 58 has. */
    private static void overAfterSixtyRounds() {
        EnclosureReferee x = Boards.started(4, 4, 0);
        Boards.play(x, "b2 b2, a4 a4, c4 d4, b1 b1, c1 d1, d3 a1, a3 c3");
        x.setRule(1);
        while (x.count(0) < 58) {
            Boards.play(x, "a2 a2");
        }
        CHECK.same("player 0 captures in round 59", x.guarantee(1, 6, 2), -6);
        Boards.play(x, "a2 a2");
        CHECK.same("not after the last round", x.guarantee(1, 6, 2), 0);
        CHECK.same("the depth 1 in the last round", x.guarantee(1, 6, 1), 0);
        Boards.play(x, "a2 a2");
        CHECK.refused("no round after it", STATE, () -> x.guarantee(1, 6, 2));
    }

    /** "or the depth is 2 and more than 6 cells are empty": 6 are not more; the depth 1 does not mind. */
    private static void sixAndSevenEmptyCells() {
        EnclosureReferee x = Boards.nearlyFull("a1 b1 c1 d1 a2 a3 a4");
        CHECK.same("seven cells", x.count(3), 7);
        CHECK.same("the depth 1", x.guarantee(0, 0, 1), 0);
        CHECK.same("the best of the depth 1", x.best(0, 1), 0);
        CHECK.refused("the depth 2", STATE, () -> x.guarantee(0, 0, 2));
        CHECK.refused("the best of the depth 2", STATE, () -> x.best(0, 2));
        Boards.play(x, "d1 d1");
        CHECK.same("six cells", x.count(3), 6);
        CHECK.same("the depth 2 now", x.guarantee(0, 0, 2), 0);
        CHECK.same("passing now", x.guarantee(1, -1, 2), 0);
        CHECK.same("the best of the depth 2 now", x.best(1, 2), 0);
        CHECK.same("49 cells and the depth 1", Boards.started(7, 7, 0).best(1, 1), 0);
    }

    /** guarantee and best ask only: all of the state stays. */
    private static void nothingChanges() {
        EnclosureReferee x = Boards.busy();
        x.guarantee(0, 1, 1);
        x.best(1, 1);
        CHECK.same("after the depth 1", State.of(x), State.of(Boards.busy()));
        EnclosureReferee y = Boards.nearlyFull("a1 b2 c2 d4");
        y.guarantee(1, 5, 2);
        y.best(0, 2);
        CHECK.same("after the depth 2", State.of(y), State.of(Boards.nearlyFull("a1 b2 c2 d4")));
    }

    /** guarantee "Throws IndexOutOfBoundsException if there is no such player" */
    private static void playerOutside() {
        for (int wrong : new int[] {-1, 2, 64, MIN, MAX}) {
            CHECK.leavesAll("player " + wrong, OUT_OF_BOUNDS, Boards::busy, x -> x.guarantee(wrong, 1, 1));
        }
    }

    /** guarantee "Throws IndexOutOfBoundsException if ... the choice is neither PASS nor a cell of the board" */
    private static void choiceOutside() {
        for (int wrong : new int[] {-2, 25, 26, 32, 64, 65, 256, MIN, MAX}) {
            CHECK.leavesAll("choice " + wrong, OUT_OF_BOUNDS, Boards::busy, x -> x.guarantee(0, wrong, 1));
        }
    }

    /** "Throws IllegalArgumentException if the depth is out of range": of guarantee and of best. */
    private static void depthOutside() {
        for (int wrong : new int[] {0, 3, -1, -2, 256, MIN, MAX}) {
            CHECK.leavesAll("depth " + wrong, ILLEGAL, Boards::busy, x -> x.guarantee(0, 1, wrong));
            CHECK.leavesAll("best of depth " + wrong, ILLEGAL, Boards::busy, x -> x.best(0, wrong));
            CHECK.refused("depth " + wrong + " on a nearly full board", ILLEGAL,
                    () -> Boards.nearlyFull("a1").guarantee(0, 0, wrong));
        }
    }

    /** guarantee "Throws IllegalStateException if the game is over": for each of its ends. */
    private static void overAlready() {
        CHECK.leavesAll("both passed", STATE, Boards::over, x -> x.guarantee(0, 1, 1));
        CHECK.leavesAll("both passed, and passing", STATE, Boards::over, x -> x.guarantee(1, -1, 1));
        CHECK.leavesAll("a full board", STATE, () -> Boards.nearlyFull(""), x -> x.guarantee(0, -1, 2));
        CHECK.leavesAll("60 rounds", STATE, () -> Boards.idle(60), x -> x.guarantee(0, 0, 1));
    }

    /** guarantee "Throws IllegalStateException if ... the chosen cell is not empty": in each other state. */
    private static void cellNotEmpty() {
        for (int cell : new int[] {7, 0, 12, 24}) {
            CHECK.leavesAll("cell " + cell, STATE, Boards::busy, x -> x.guarantee(0, cell, 1));
            CHECK.leavesAll("cell " + cell + " for 1", STATE, Boards::busy, x -> x.guarantee(1, cell, 1));
        }
        CHECK.leavesAll("an area of 1", STATE, Boards::withStruggle, x -> x.guarantee(0, 13, 1));
        CHECK.leavesAll("a block and the depth 2", STATE, () -> Boards.nearlyFull("a1"), x -> x.guarantee(0, 1, 2));
    }

    /** guarantee "Throws IllegalStateException if ... the depth is 2 and more than 6 cells are empty" */
    private static void tooManyEmptyCells() {
        CHECK.leavesAll("seven cells", STATE, () -> Boards.nearlyFull("a1 b1 c1 d1 a2 a3 a4"),
                x -> x.guarantee(0, 0, 2));
        CHECK.leavesAll("seven cells and passing", STATE, () -> Boards.nearlyFull("a1 b1 c1 d1 a2 a3 a4"),
                x -> x.guarantee(0, -1, 2));
        CHECK.leavesAll("49 cells", STATE, () -> Boards.started(7, 7, 0), x -> x.guarantee(1, 48, 2));
    }

    /** "If several exceptions apply, the one named first is thrown.": of guarantee. */
    private static void refusedInOrder() {
        CHECK.leavesAll("player before depth", OUT_OF_BOUNDS, Boards::busy, x -> x.guarantee(2, 1, 0));
        CHECK.leavesAll("player before state", OUT_OF_BOUNDS, Boards::over, x -> x.guarantee(-1, 7, 2));
        CHECK.leavesAll("choice before depth", OUT_OF_BOUNDS, Boards::busy, x -> x.guarantee(0, 25, 3));
        CHECK.leavesAll("choice before state", OUT_OF_BOUNDS, Boards::over, x -> x.guarantee(0, -2, 1));
        CHECK.leavesAll("depth before the end", ILLEGAL, Boards::over, x -> x.guarantee(0, 1, 0));
        CHECK.leavesAll("depth before a full cell", ILLEGAL, Boards::busy, x -> x.guarantee(0, 7, 3));
        CHECK.leavesAll("all at once", OUT_OF_BOUNDS, Boards::over, x -> x.guarantee(2, 25, 3));
    }

    /** "of several the cell with the lowest number" */
    private static void firstCellOfSeveral() {
        EnclosureReferee x = Boards.started(7, 7, 0);
        for (int cell = 0; cell < 12; cell++) {
            CHECK.same("the first empty cell of 0", x.best(0, 1), cell);
            CHECK.same("the first empty cell of 1", x.best(1, 1), cell);
            x.play(cell, cell);
        }
        EnclosureReferee y = Boards.nearlyFull("b1 c1 d4");
        CHECK.same("the first of three", y.best(0, 2), 1);
        CHECK.same("the first of three for 1", y.best(1, 2), 1);
    }

    /** The cell with the highest number, where all others are worse. */
    private static void lastCell() {
        EnclosureReferee x = Boards.nearlyFull("b2 d4");
        CHECK.same("d4 is as good as passing", x.best(0, 1), 15);
        CHECK.same("for 1", x.best(1, 1), 15);
        CHECK.same("deeper", x.best(0, 2), 15);
        EnclosureReferee y = Boards.nearlyFull("a1 b2");
        CHECK.same("a1 is as good", y.best(0, 1), 0);
    }

    /** "and passing only if it is greater than those of all cells" */
    private static void passingOnlyIfGreater() {
        EnclosureReferee x = Boards.nearlyFull("b2 c3");
        CHECK.same("passing", x.guarantee(0, -1, 1), 0);
        CHECK.same("b2 is worse", x.guarantee(0, 5, 1), -1);
        CHECK.same("c3 is worse", x.guarantee(0, 10, 1), -1);
        for (int depth = 1; depth <= 2; depth++) {
            CHECK.same("passing is greater", x.best(0, depth), -1);
            CHECK.same("for 1", x.best(1, depth), -1);
        }
        Boards.play(x, "- c3");
        CHECK.same("one cell left", x.best(1, 1), -1);
        EnclosureReferee y = Boards.nearlyFull("a1");
        CHECK.same("as great as that of the only cell", y.best(0, 1), 0);
        CHECK.same("and deeper", y.best(1, 2), 0);
        x.undo();
        x.setRule(1);
        CHECK.same("it is not the rule", x.best(0, 1), -1);
    }

    /** "depth: the depth, 1 or 2": they differ here, as the first one sees c3 alone. */
    private static void bestByDepth() {
        EnclosureReferee x = Boards.started(4, 4, 0);
        Boards.play(x, "c4 d4, b2 d1, a3 a1, d3 b3, b1 c2, b4 a4");
        x.setRule(2);
        CHECK.same("the board", Boards.drawn(x), "OX.O/.XO./XO.X/OXXO");
        CHECK.same("the depth 1", x.best(0, 1), 10);
        CHECK.same("the depth 2", x.best(0, 2), 2);
    }

    /** best: "if there is no such player", "if the game is over", "more than 6 cells are empty". */
    private static void bestRefused() {
        for (int wrong : new int[] {-1, 2, 64, MIN, MAX}) {
            CHECK.leavesAll("best of " + wrong, OUT_OF_BOUNDS, Boards::busy, x -> x.best(wrong, 1));
        }
        CHECK.leavesAll("best after the end", STATE, Boards::over, x -> x.best(0, 1));
        CHECK.leavesAll("best on a full board", STATE, () -> Boards.nearlyFull(""), x -> x.best(0, 2));
        CHECK.leavesAll("best after 60 rounds", STATE, () -> Boards.idle(60), x -> x.best(1, 1));
        CHECK.leavesAll("best with too many", STATE, () -> Boards.nearlyFull("a1 b1 c1 d1 a2 a3 a4"),
                x -> x.best(0, 2));
    }

    /** "If several exceptions apply, the one named first is thrown.": of best. */
    private static void bestRefusedInOrder() {
        CHECK.leavesAll("player before depth", OUT_OF_BOUNDS, Boards::busy, x -> x.best(2, 0));
        CHECK.leavesAll("player before state", OUT_OF_BOUNDS, Boards::over, x -> x.best(-1, 1));
        CHECK.leavesAll("depth before state", ILLEGAL, Boards::over, x -> x.best(0, 3));
        CHECK.leavesAll("all at once", OUT_OF_BOUNDS, Boards::over, x -> x.best(2, 3));
    }
}
