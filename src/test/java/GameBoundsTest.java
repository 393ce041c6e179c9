/** The boundary cases that the document's sentences name: promises 1 to 7, boards, rules, bonuses, undo, the end. */
public final class GameBoundsTest {
    private static final Check CHECK = new Check("GameBoundsTest");
    private static final int MIN = Integer.MIN_VALUE;
    private static final int MAX = Integer.MAX_VALUE;

    private GameBoundsTest() {
    }

    public static void main(String[] args) {
        newObject();
        lastCall();
        sides();
        sidesOutOfRange();
        numbersOfCells();
        neighbors();
        handicaps();
        handicapsOutOfRange();
        startForgets();
        ruleStays();
        ruleAtFirst();
        rules();
        rulesOutOfRange();
        bonusAtFirst();
        bonuses();
        bonusesForNobody();
        bonusesOutOfRange();
        bonusRefusedInOrder();
        choices();
        choicesOutsideTheBoard();
        playAfterTheEnd();
        playOnFullCells();
        playRefusedInOrder();
        undoToTheBeginning();
        undoOfNothing();
        undoBringsBack();
        undoLeavesRuleAndBonuses();
        bothPass();
        fullBoard();
        fullByCaptures();
        sixtyRounds();
        CHECK.end();
    }

    /** "Creates a referee with a new game on a board of 5 by 5 cells, without handicap." */
    private static void newObject() {
        EnclosureReferee x = new EnclosureReferee();
        CHECK.same("first width", x.count(1), 5);
        CHECK.same("first height", x.count(2), 5);
        CHECK.same("first empty cells", x.cells(0), (1L << 25) - 1);
        CHECK.same("first stones of player 1", x.cells(2), 0);
        CHECK.same("a new object is a game on 5 by 5 cells",
                State.of(new EnclosureReferee()), State.of(Boards.started(5, 5, 0)));
    }

    /** "An object is used for at most 512 calls": the last of them answers as any other. */
    private static void lastCall() {
        EnclosureReferee x = new EnclosureReferee();
        x.setRule(1);
        for (int call = 2; call < 512; call += 2) {
            x.start(4 + call % 4, 4 + call / 4 % 4, call % 5);
            x.play(0, 0);
        }
        CHECK.same("call 512", x.start(7, 7, 4), 45);
        EnclosureReferee y = new EnclosureReferee();
        for (int call = 1; call < 511; call += 2) {
            y.play(call % 25, (call + 1) % 25);
            y.undo();
        }
        y.play(0, 0);
        CHECK.same("call 512 after rounds and undo", y.cell(0, 0), 5);
    }

    /** "The board has a width and a height, each from 4 to 7" and start "Returns the number of empty cells." */
    private static void sides() {
        for (int width = 4; width <= 7; width++) {
            for (int height = 4; height <= 7; height++) {
                EnclosureReferee x = new EnclosureReferee();
                String board = width + " by " + height;
                CHECK.same(board, x.start(width, height, 0), width * height);
                CHECK.same("width of " + board, x.count(1), width);
                CHECK.same("height of " + board, x.count(2), height);
                CHECK.same("cells of " + board, x.cells(0), (1L << (width * height)) - 1);
            }
        }
    }

    /** start "Throws IllegalArgumentException if a number is out of range": width and height. */
    private static void sidesOutOfRange() {
        int[] wrong = {3, 8, 0, -1, -4, -5, 4 + 256, 5 + 65536, MIN, MIN + 4, MAX};
        for (int side : wrong) {
            CHECK.leavesAll("width " + side, IllegalArgumentException.class, Boards::busy, x -> x.start(side, 5, 0));
            CHECK.leavesAll("height " + side, IllegalArgumentException.class, Boards::busy, x -> x.start(5, side, 0));
            CHECK.refused("both " + side, IllegalArgumentException.class, () -> Boards.busy().start(side, side, 0));
        }
    }

    /** "Its cells are numbered from 0 row by row, in each row from left to right" */
    private static void numbersOfCells() {
        for (int width = 4; width <= 7; width++) {
            for (int height = 4; height <= 7; height++) {
                EnclosureReferee x = Boards.started(width, height, 0);
                x.play(0, width * height - 1);
                x.play(width - 1, width);
                String board = " on " + width + " by " + height;
                CHECK.same("the first cell" + board, x.cell(0, 0), 1);
                CHECK.same("the last cell" + board, x.cell(width - 1, height - 1), 2);
                CHECK.same("the end of the first row" + board, x.cell(width - 1, 0), 1);
                CHECK.same("the beginning of the second row" + board, x.cell(0, 1), 2);
            }
        }
    }

    /**
     * "the neighbors of a cell are those to the left, to the right, above and below": none beyond the board's sides.
     */
    private static void neighbors() {
        for (int width = 4; width <= 7; width++) {
            for (int height = 4; height <= 7; height++) {
                for (int cell = 0; cell < width * height; cell++) {
                    neighborsOf(width, height, cell);
                }
            }
        }
    }

    /** A stone on the cell and one on any other cell are a chain if they are neighbors. */
    private static void neighborsOf(int width, int height, int cell) {
        long found = 0;
        long due = 0;
        EnclosureReferee x = Boards.started(width, height, 0);
        x.play(cell, EnclosureReferee.PASS);
        for (int other = 0; other < width * height; other++) {
            if (other != cell) {
                x.play(other, EnclosureReferee.PASS);
                found |= x.chain(cell);
                x.undo();
                int columns = Math.abs(cell % width - other % width);
                int rows = Math.abs(cell / width - other / width);
                due |= columns + rows == 1 ? 1L << other : 0;
            }
        }
        CHECK.same("neighbors of " + cell + " on " + width + " by " + height, found, due | 1L << cell);
    }

    /** "A game can begin with 0 to 4 stones of player 1 on the first cells of this list" */
    private static void handicaps() {
        for (int width = 4; width <= 7; width++) {
            for (int height = 4; height <= 7; height++) {
                int[][] places = {{1, 1}, {width - 2, height - 2}, {width - 2, 1}, {1, height - 2}};
                long stones = 0;
                for (int handicap = 0; handicap <= 4; handicap++) {
                    EnclosureReferee x = new EnclosureReferee();
                    String game = width + " by " + height + " with " + handicap;
                    CHECK.same(game, x.start(width, height, handicap), width * height - handicap);
                    CHECK.same("stones of " + game, x.cells(2), stones);
                    CHECK.same("other cells of " + game, x.cells(0), (1L << (width * height)) - 1 - stones);
                    if (handicap < 4) {
                        stones |= 1L << (places[handicap][1] * width + places[handicap][0]);
                    }
                }
            }
        }
    }

    /** start "Throws IllegalArgumentException if a number is out of range": the number of stones. */
    private static void handicapsOutOfRange() {
        for (int wrong : new int[] {-1, 5, 256, MIN, MAX}) {
            CHECK.leavesAll("handicap " + wrong, IllegalArgumentException.class, Boards::busy,
                    x -> x.start(5, 5, wrong));
        }
    }

    /** "Rounds, captures and bonuses of the earlier one are forgotten": of a game of the same and of another size. */
    private static void startForgets() {
        for (int width = 4; width <= 7; width++) {
            EnclosureReferee x = Boards.over();
            x.start(width, 5, 1);
            StringBuilder seen = new StringBuilder();
            State.addSeen(x, seen);
            StringBuilder due = new StringBuilder();
            State.addSeen(Boards.started(width, 5, 1), due);
            CHECK.same("a game on " + width + " by 5 after another", seen.toString(), due.toString());
            CHECK.same("its record", Boards.written(x), "");
            CHECK.refused("its last round", IllegalStateException.class, x::undo);
        }
    }

    /** "the rule stays" */
    private static void ruleStays() {
        for (int rule = 0; rule <= 2; rule++) {
            EnclosureReferee x = new EnclosureReferee();
            x.setRule(rule);
            x.start(4, 4, 0);
            CHECK.same("the rule after start", x.setRule(0), rule);
        }
    }

    /** "The rule is 0 at first." */
    private static void ruleAtFirst() {
        EnclosureReferee x = new EnclosureReferee();
        x.play(3, 3);
        CHECK.same("a clash makes a block", x.cell(3, 0), 5);
        CHECK.same("the first rule", x.setRule(2), 0);
    }

    /** "rule: the rule, 0 to 2"; setRule "Returns the previous rule." */
    private static void rules() {
        for (int before = 0; before <= 2; before++) {
            for (int rule = 0; rule <= 2; rule++) {
                EnclosureReferee x = new EnclosureReferee();
                x.setRule(before);
                CHECK.same("from " + before + " to " + rule, x.setRule(rule), before);
                CHECK.same("it is " + rule, x.setRule(rule), rule);
            }
        }
    }

    /** setRule "Throws IllegalArgumentException if there is no such rule" */
    private static void rulesOutOfRange() {
        for (int wrong : new int[] {-1, 3, 256, MIN, MAX}) {
            CHECK.leavesAll("rule " + wrong, IllegalArgumentException.class, Boards::busy, x -> x.setRule(wrong));
        }
    }

    /** "its bonus, a number from 0 to 20, at first 0" */
    private static void bonusAtFirst() {
        EnclosureReferee x = new EnclosureReferee();
        CHECK.same("first bonus of 0", x.setBonus(0, 20), 0);
        CHECK.same("first bonus of 1", x.setBonus(1, 20), 0);
    }

    /** "a number from 0 to 20": the least, the greatest and all between them, each for its own player. */
    private static void bonuses() {
        EnclosureReferee x = new EnclosureReferee();
        for (int bonus = 0; bonus <= 20; bonus++) {
            x.setBonus(0, bonus);
            x.setBonus(1, 20 - bonus);
            CHECK.same("bonus of 0", x.player(0, 4), bonus);
            CHECK.same("bonus of 1", x.player(1, 4), 20 - bonus);
            CHECK.same("score of 0", x.player(0, 0), bonus);
            CHECK.same("score of 1", x.player(1, 0), 20 - bonus);
        }
        CHECK.same("down to the least", x.setBonus(0, 0), 20);
        CHECK.same("the least", x.player(0, 4), 0);
    }

    /** setBonus "Throws IndexOutOfBoundsException if there is no such player" */
    private static void bonusesForNobody() {
        for (int wrong : new int[] {-1, 2, 256, MIN, MAX}) {
            CHECK.leavesAll("bonus of " + wrong, IndexOutOfBoundsException.class, Boards::busy,
                    x -> x.setBonus(wrong, 1));
        }
    }

    /** setBonus "Throws IllegalArgumentException if the bonus is out of range" */
    private static void bonusesOutOfRange() {
        for (int wrong : new int[] {-1, 21, 256, MIN, MAX}) {
            CHECK.leavesAll("bonus " + wrong, IllegalArgumentException.class, Boards::busy,
                    x -> x.setBonus(0, wrong));
            CHECK.leavesAll("bonus " + wrong + " of 1", IllegalArgumentException.class, Boards::busy,
                    x -> x.setBonus(1, wrong));
        }
    }

    /** "If several exceptions apply, the one named first is thrown.": of setBonus. */
    private static void bonusRefusedInOrder() {
        CHECK.leavesAll("bonus 21 of 2", IndexOutOfBoundsException.class, Boards::busy, x -> x.setBonus(2, 21));
        CHECK.leavesAll("bonus -1 of -1", IndexOutOfBoundsException.class, Boards::busy, x -> x.setBonus(-1, -1));
    }

    /** "first: the choice of player 0, a cell or PASS": the first cell, the last one, passing. */
    private static void choices() {
        for (int width = 4; width <= 7; width++) {
            int last = width * 6 - 1;
            EnclosureReferee x = Boards.started(width, 6, 0);
            CHECK.same("the first and the last cell", x.play(0, last), 0);
            CHECK.same("they are taken", x.cells(1) | x.cells(2) << 1, 1L | 1L << (last + 1));
            x.undo();
            CHECK.same("the last and the first cell", x.play(last, 0), 0);
            CHECK.same("they are taken too", x.cells(1) << 1 | x.cells(2), 1L << (last + 1) | 1L);
            CHECK.same("player 0 passes", x.play(EnclosureReferee.PASS, 1), 0);
            CHECK.same("player 1 passes", x.play(2, EnclosureReferee.PASS), 0);
            CHECK.same("one stone each", x.count(3), width * 6 - 4);
        }
    }

    /** play "Throws IndexOutOfBoundsException if a choice is neither PASS nor a cell of the board" */
    private static void choicesOutsideTheBoard() {
        for (int wrong : new int[] {-2, 25, 26, 32, 64, 65, 256, -25, MIN, MAX}) {
            CHECK.leavesAll(wrong + " for 0", IndexOutOfBoundsException.class, Boards::busy, x -> x.play(wrong, 1));
            CHECK.leavesAll(wrong + " for 1", IndexOutOfBoundsException.class, Boards::busy, x -> x.play(1, wrong));
            CHECK.leavesAll(wrong + " for both", IndexOutOfBoundsException.class, Boards::busy,
                    x -> x.play(wrong, wrong));
            CHECK.leavesAll(wrong + " after passing", IndexOutOfBoundsException.class, Boards::busy,
                    x -> x.play(-1, wrong));
        }
        for (int width = 4; width <= 7; width++) {
            EnclosureReferee x = Boards.started(width, 4, 0);
            int beyond = width * 4;
            CHECK.refused("beyond the last cell", IndexOutOfBoundsException.class, () -> x.play(beyond, 0));
            CHECK.refused("beyond it for 1", IndexOutOfBoundsException.class, () -> x.play(0, beyond));
        }
    }

    /** play "Throws IllegalStateException if the game is over" */
    private static void playAfterTheEnd() {
        CHECK.leavesAll("a round after the end", IllegalStateException.class, Boards::over, x -> x.play(1, 2));
        CHECK.leavesAll("passing after the end", IllegalStateException.class, Boards::over, x -> x.play(-1, -1));
    }

    /** play "Throws UnsupportedOperationException if a chosen cell is not empty; this leaves a report": all states. */
    private static void playOnFullCells() {
        CHECK.leavesReport("a stone of 0", "1 6, 2 7, 11 0", Boards::busy, x -> x.play(7, 1));
        CHECK.leavesReport("a stone of 1", "1 6, 2 0, 12 1", Boards::busy, x -> x.play(0, -1));
        CHECK.leavesReport("an area of 0", "1 6, 2 12, 13 3, 20 1", Boards::busy, x -> x.play(12, 1));
        CHECK.leavesReport("an area of 1", "1 9, 2 13, 14 8, 27 2", Boards::withStruggle, x -> x.play(13, 0));
        CHECK.leavesReport("a block", "1 6, 2 24, 15 4", Boards::busy, x -> x.play(24, 1));
        CHECK.leavesReport("a stone of 0 for 1", "1 6, 3 7, 11 0", Boards::busy, x -> x.play(1, 7));
        CHECK.leavesReport("a stone of 1 for 1", "1 6, 3 0, 12 1", Boards::busy, x -> x.play(-1, 0));
        CHECK.leavesReport("an area of 0 for 1", "1 6, 3 12, 13 3, 20 1", Boards::busy, x -> x.play(1, 12));
        CHECK.leavesReport("an area of 1 for 1", "1 9, 3 13, 14 8, 27 2", Boards::withStruggle, x -> x.play(0, 13));
        CHECK.leavesReport("a block for 1", "1 6, 3 24, 15 4", Boards::busy, x -> x.play(1, 24));
    }

    /** "If several exceptions apply, the one named first is thrown.": of play. */
    private static void playRefusedInOrder() {
        CHECK.leavesAll("a full cell and none", IndexOutOfBoundsException.class, Boards::busy, x -> x.play(7, 25));
        CHECK.leavesAll("none and a full cell", IndexOutOfBoundsException.class, Boards::busy, x -> x.play(-2, 7));
        CHECK.leavesAll("no cell after the end", IndexOutOfBoundsException.class, Boards::over, x -> x.play(1, 25));
        CHECK.leavesAll("none first after the end", IndexOutOfBoundsException.class, Boards::over,
                x -> x.play(-2, 1));
        CHECK.leavesAll("a full cell after the end", IllegalStateException.class, Boards::over, x -> x.play(7, 1));
        CHECK.leavesAll("a full one for 1 after it", IllegalStateException.class, Boards::over, x -> x.play(-1, 7));
        CHECK.leavesAll("all at once", IndexOutOfBoundsException.class, Boards::over, x -> x.play(7, 25));
    }

    /** undo "Returns the number of rounds that remain.": down to none, from the greatest number of rounds. */
    private static void undoToTheBeginning() {
        EnclosureReferee x = Boards.idle(60);
        for (int round = 59; round >= 0; round--) {
            CHECK.same("undo to " + round, x.undo(), round);
            CHECK.same("rounds", x.count(0), round);
        }
        CHECK.same("as at the beginning", State.of(x), State.of(Boards.idle(0)));
    }

    /** undo "Throws IllegalStateException if there is none" */
    private static void undoOfNothing() {
        CHECK.leavesAll("undo at first", IllegalStateException.class, EnclosureReferee::new, x -> x.undo());
        CHECK.leavesAll("undo after undo", IllegalStateException.class, GameBoundsTest::takenBack, x -> x.undo());
        CHECK.leavesAll("undo after start", IllegalStateException.class, GameBoundsTest::startedAgain, x -> x.undo());
    }

    private static EnclosureReferee takenBack() {
        EnclosureReferee x = Boards.busy();
        while (x.count(0) > 0) {
            x.undo();
        }
        return x;
    }

    private static EnclosureReferee startedAgain() {
        EnclosureReferee x = Boards.busy();
        x.start(5, 5, 4);
        return x;
    }

    /**
     * "Taking a round back brings back everything as it was before it, except rule, bonuses, report and input
     * buffer."
     */
    private static void undoBringsBack() {
        backFrom("stones", Boards::busy, "b1 c1");
        backFrom("a clash", Boards::busy, "b1 b1");
        backFrom("one that passes", Boards::busy, "- b1");
        backFrom("both that pass", Boards::busy, "- -");
        backFrom("a capture", GameBoundsTest::beforeCapture, "c4 b5");
        backFrom("eight waves", Boards::walled, "b3 d3");
        backFrom("eight waves more", Boards::withStruggle, "- -");
        backFrom("a clash without effect", () -> Boards.idle(5), "a1 a1");
        backFrom("round 59", () -> Boards.idle(59), "a1 b1");
        backFrom("the last cell", () -> Boards.nearlyFull("a1"), "a1 -");
        backFrom("the first round", () -> Boards.started(7, 7, 4), "a1 g7");
    }

    private static EnclosureReferee beforeCapture() {
        EnclosureReferee x = Boards.withCapture();
        x.undo();
        return x;
    }

    private static void backFrom(String what, Check.Making making, String round) {
        EnclosureReferee x = making.referee();
        Boards.play(x, round);
        x.undo();
        CHECK.same("back from " + what, State.of(x), State.of(making.referee()));
    }

    /** undo: "The rule and bonuses stay as they are now.", and so do report and input buffer. */
    private static void undoLeavesRuleAndBonuses() {
        EnclosureReferee x = new EnclosureReferee();
        Boards.play(x, "a1 b1");
        x.setRule(2);
        x.setBonus(0, 20);
        x.setBonus(1, 19);
        CHECK.refused("a full cell", UnsupportedOperationException.class, () -> x.play(0, 1));
        Boards.feed(x, "-");
        x.undo();
        EnclosureReferee y = new EnclosureReferee();
        y.setRule(2);
        y.setBonus(0, 20);
        y.setBonus(1, 19);
        Boards.feed(y, "-");
        CHECK.same("the report after undo", Boards.report(x), "1 1, 2 0, 11 0");
        CHECK.same("the rest after undo", State.butReport(x), State.butReport(y));
    }

    /** "The game is over when both players have passed in its latest round" */
    private static void bothPass() {
        EnclosureReferee x = new EnclosureReferee();
        CHECK.same("no round", x.isOver(), false);
        Boards.play(x, "- a1");
        CHECK.same("player 0 passed", x.isOver(), false);
        Boards.play(x, "b1 -");
        CHECK.same("then player 1", x.isOver(), false);
        Boards.play(x, "- -");
        CHECK.same("then both", x.isOver(), true);
        x.undo();
        CHECK.same("not in the latest round any more", x.isOver(), false);
        Boards.play(x, "c1 d1");
        CHECK.same("another round in its place", x.isOver(), false);
        EnclosureReferee y = new EnclosureReferee();
        Boards.play(y, "- -");
        CHECK.same("both in round 0", y.isOver(), true);
    }

    /** "The game is over ... when no cell is empty": one cell and none, on the smallest and the largest board. */
    private static void fullBoard() {
        String[] lastRounds = {"a1 -", "- a1", "a1 a1"};
        for (String last : lastRounds) {
            EnclosureReferee x = Boards.nearlyFull("a1");
            CHECK.same("one cell", x.isOver(), false);
            Boards.play(x, last);
            CHECK.same("none after " + last, x.isOver(), true);
            CHECK.leavesAll("a round on a full board", IllegalStateException.class, () -> {
                EnclosureReferee y = Boards.nearlyFull("a1");
                Boards.play(y, last);
                return y;
            }, y -> y.play(-1, -1));
        }
        EnclosureReferee z = Boards.nearlyFull("a1 d4");
        Boards.play(z, "d4 a1");
        CHECK.same("both last cells at once", z.isOver(), true);
        z.undo();
        z.setRule(1);
        Boards.play(z, "a1 a1");
        CHECK.same("a clash without effect", z.isOver(), false);
        EnclosureReferee v = Boards.started(7, 7, 0);
        for (int cell = 0; cell < 48; cell++) {
            v.play(cell, EnclosureReferee.PASS);
        }
        CHECK.same("48 stones", v.isOver(), false);
        v.play(48, EnclosureReferee.PASS);
        CHECK.same("49 stones", v.isOver(), true);
    }

    /** "when no cell is empty": captures can take the last ones. */
    private static void fullByCaptures() {
        EnclosureReferee x = Boards.nearlyFull("b1 b2 c2");
        x.setRule(1);
        Boards.play(x, "b1 b1");
        CHECK.same("three cells", x.isOver(), false);
        CHECK.same("the two that it encloses", Boards.play(x, "b1 -"), 2);
        CHECK.same("all three are gone", x.count(3), 0);
        CHECK.same("none is empty", x.isOver(), true);
    }

    /** "The game is over ... after 60 rounds." */
    private static void sixtyRounds() {
        EnclosureReferee x = Boards.idle(59);
        CHECK.same("59 rounds", x.isOver(), false);
        CHECK.same("the last round", Boards.play(x, "a1 b1"), 0);
        CHECK.same("60 rounds", x.isOver(), true);
        CHECK.same("it was played", x.cells(1) + 10 * x.cells(2), 1 + 20);
        CHECK.same("it counts", x.count(0), 60);
        CHECK.leavesAll("round 60", IllegalStateException.class, () -> Boards.idle(60), y -> y.play(0, 1));
        x.undo();
        CHECK.same("59 rounds again", x.isOver(), false);
        Boards.play(x, "c1 d1");
        CHECK.same("60 rounds again", x.isOver(), true);
    }
}
