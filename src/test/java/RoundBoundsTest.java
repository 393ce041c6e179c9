import java.util.NoSuchElementException;

/** The boundary cases that the document's sentences name: promises 17 and 18. */
public final class RoundBoundsTest {
    private static final Check CHECK = new Check("RoundBoundsTest");
    private static final int MIN = Integer.MIN_VALUE;
    private static final int MAX = Integer.MAX_VALUE;
    private static final Class<IndexOutOfBoundsException> OUT_OF_BOUNDS = IndexOutOfBoundsException.class;
    private static final Class<IllegalArgumentException> ILLEGAL = IllegalArgumentException.class;
    private static final Class<NoSuchElementException> NO_SUCH = NoSuchElementException.class;

    private RoundBoundsTest() {
    }

    public static void main(String[] args) {
        firstAndLastRound();
        choices();
        clashes();
        wavesAndCells();
        scoresAsTheyWere();
        roundOutside();
        roundWhat();
        noTurningPoint();
        turningPointOfOneRound();
        turningPointFromTheBeginning();
        firstOfSeveral();
        turningPointInTheLastRound();
        fallAndRise();
        CHECK.end();
    }

    private static void sameParts(EnclosureReferee x, int round, int... parts) {
        for (int what = 0; what < parts.length; what++) {
            CHECK.same("round(" + round + ", " + what + ")", x.round(round, what), parts[what]);
        }
    }

    /** "The rounds of a game are numbered from 0.": the first one, and the last one that can be played. */
    private static void firstAndLastRound() {
        EnclosureReferee x = Boards.idle(60);
        sameParts(x, 0, 0, 0, 1, 0, 0, 0, 0);
        sameParts(x, 59, 0, 0, 1, 0, 0, 0, 0);
        x.undo();
        x.setBonus(0, 1);
        Boards.play(x, "d4 -");
        sameParts(x, 59, 15, -1, 0, 0, 0, 1, 0);
        sameParts(x, 58, 0, 0, 1, 0, 0, 0, 0);
    }

    /** "0 and 1 the choices": the first cell, the last one, passing. */
    private static void choices() {
        EnclosureReferee x = Boards.started(7, 7, 0);
        Boards.play(x, "a1 g7, - g1, a7 -, - -");
        sameParts(x, 0, 0, 48, 0);
        sameParts(x, 1, -1, 6, 0);
        sameParts(x, 2, 42, -1, 0);
        sameParts(x, 3, -1, -1, 0);
    }

    /** "2: 1 if it was a clash, otherwise 0": with each rule; both passing is none. */
    private static void clashes() {
        for (int rule = 0; rule <= 2; rule++) {
            EnclosureReferee x = new EnclosureReferee();
            x.setRule(rule);
            Boards.play(x, "e5 e5, a1 b1, - -");
            CHECK.same("a clash with the rule " + rule, x.round(0, 2), 1);
            CHECK.same("two stones with the rule " + rule, x.round(1, 2), 0);
            CHECK.same("both passing with the rule " + rule, x.round(2, 2), 0);
        }
    }

    /** "3 the waves that changed a cell; 4 the cells that captures changed": none, one, two, the most. */
    private static void wavesAndCells() {
        EnclosureReferee x = Boards.withCapture();
        CHECK.same("no wave", x.round(2, 3) + x.round(2, 4), 0);
        CHECK.same("one wave", x.round(3, 3), 1);
        CHECK.same("of one cell", x.round(3, 4), 1);
        EnclosureReferee y = new EnclosureReferee();
        Boards.play(y, "d3 d3, b4 c5, c4 c4, a3 a3, a4 e1, d1 d1, c3 d2, c2 c2, b2 b3");
        CHECK.same("two waves", y.round(8, 3), 2);
        CHECK.same("of two cells and one", y.round(8, 4), 3);
        EnclosureReferee z = Boards.withStruggle();
        CHECK.same("eight waves", z.round(8, 3), 8);
        CHECK.same("of two cells, each of which counts eight times", z.round(8, 4), 16);
    }

    /** "5 and 6 the scores of both players after it, with the bonuses as they were then": the least, the greatest. */
    private static void scoresAsTheyWere() {
        EnclosureReferee x = Boards.withCapture();
        x.setBonus(0, 20);
        CHECK.same("a later bonus is not in it", x.round(3, 5), 3);
        Boards.play(x, "- b1");
        x.setBonus(0, 0);
        x.setBonus(1, 20);
        CHECK.same("an earlier one is", x.round(4, 5), 23);
        CHECK.same("that of player 1 is not", x.round(4, 6), 0);
        Boards.play(x, "- d1");
        CHECK.same("without a bonus", x.round(5, 5), 3);
        CHECK.same("with that of player 1", x.round(5, 6), 20);
        x.setBonus(1, 0);
        x.undo();
        CHECK.same("as it was", x.round(4, 5), 23);
    }

    /** round "Throws IndexOutOfBoundsException if there is no such round", also if what is out of range. */
    private static void roundOutside() {
        for (int wrong : new int[] {-1, 6, 7, 59, 60, 64, 256, MIN, MAX}) {
            CHECK.leavesAll("round " + wrong, OUT_OF_BOUNDS, Boards::busy, x -> x.round(wrong, 0));
            CHECK.refused("round " + wrong + " first", OUT_OF_BOUNDS, () -> Boards.busy().round(wrong, 7));
            CHECK.refused("round " + wrong + " of none", OUT_OF_BOUNDS, () -> new EnclosureReferee().round(wrong, 0));
        }
        CHECK.refused("round 0 of none", OUT_OF_BOUNDS, () -> new EnclosureReferee().round(0, 0));
        EnclosureReferee x = Boards.idle(60);
        CHECK.refused("round 60", OUT_OF_BOUNDS, () -> x.round(60, 0));
        x.undo();
        CHECK.refused("round 59 taken back", OUT_OF_BOUNDS, () -> x.round(59, 0));
        CHECK.same("round 58", x.round(58, 2), 1);
    }

    /** round "Throws IllegalArgumentException if what is out of range" */
    private static void roundWhat() {
        for (int wrong : new int[] {-1, 7, 64, MIN, MAX}) {
            CHECK.leavesAll("part " + wrong, ILLEGAL, Boards::busy, x -> x.round(0, wrong));
            CHECK.refused("part " + wrong + " of the last", ILLEGAL, () -> Boards.busy().round(5, wrong));
        }
    }

    /** turningPoint "Throws NoSuchElementException if there are no rounds" */
    private static void noTurningPoint() {
        CHECK.leavesAll("none at first", NO_SUCH, EnclosureReferee::new, x -> x.turningPoint());
        CHECK.leavesAll("none after undo", NO_SUCH, () -> {
            EnclosureReferee x = Boards.withCapture();
            Boards.play(x, "b1 d1");
            while (x.count(0) > 0) {
                x.undo();
            }
            return x;
        }, x -> x.turningPoint());
        CHECK.leavesAll("none after start", NO_SUCH, () -> {
            EnclosureReferee x = Boards.withCapture();
            x.start(5, 5, 0);
            return x;
        }, x -> x.turningPoint());
    }

    /** The first round of a game is its turning point, whether anything changed in it or not. */
    private static void turningPointOfOneRound() {
        EnclosureReferee x = new EnclosureReferee();
        Boards.play(x, "- -");
        CHECK.same("nothing changed", x.turningPoint(), 0);
        CHECK.same("nothing changed in 60 rounds", Boards.idle(60).turningPoint(), 0);
    }

    /** "or with the beginning of the game for round 0, where both scores are the bonuses as they are now" */
    private static void turningPointFromTheBeginning() {
        EnclosureReferee x = new EnclosureReferee();
        Boards.play(x, "a1 b1");
        x.setBonus(0, 1);
        Boards.play(x, "c1 d1");
        CHECK.same("1 at the beginning, and 1 in round 1", x.turningPoint(), 0);
        x.setBonus(0, 0);
        CHECK.same("0 at the beginning", x.turningPoint(), 1);
        x.setBonus(1, 1);
        CHECK.same("-1 at the beginning", x.turningPoint(), 0);
        x.setBonus(0, 20);
        x.setBonus(1, 20);
        CHECK.same("20 to 20 at the beginning", x.turningPoint(), 1);
        x.setBonus(0, 19);
        CHECK.same("19 to 20 at the beginning", x.turningPoint(), 0);
    }

    /** "of several, the first one" */
    private static void firstOfSeveral() {
        EnclosureReferee x = new EnclosureReferee();
        int[] bonuses = {0, 2, 0, 2, 5, 2, 5, 5};
        for (int round = 0; round < bonuses.length; round++) {
            x.setBonus(0, bonuses[round]);
            x.play(round, EnclosureReferee.PASS);
        }
        x.setBonus(0, 0);
        CHECK.same("changes 0, 2, -2, 2, 3, -3, 3, 0", x.turningPoint(), 4);
        x.setBonus(1, 3);
        CHECK.same("changes 3, 2, -2, 2, 3, -3, 3, 0", x.turningPoint(), 0);
        while (x.count(0) > 4) {
            x.undo();
        }
        x.setBonus(1, 0);
        CHECK.same("changes 0, 2, -2, 2", x.turningPoint(), 1);
    }

    /** The last round that can be played. */
    private static void turningPointInTheLastRound() {
        EnclosureReferee x = Boards.idle(59);
        x.setBonus(1, 20);
        Boards.play(x, "b1 c1");
        x.setBonus(1, 0);
        CHECK.same("round 59", x.turningPoint(), 59);
        x.setBonus(0, 20);
        CHECK.same("as much as at the beginning", x.turningPoint(), 0);
        x.setBonus(0, 19);
        CHECK.same("one less than in round 59", x.turningPoint(), 59);
    }

    /** "the greatest absolute change": a fall counts as a rise does, and through 0. */
    private static void fallAndRise() {
        EnclosureReferee x = new EnclosureReferee();
        int[][] bonuses = {{0, 0}, {20, 0}, {0, 20}, {20, 0}};
        for (int round = 0; round < 4; round++) {
            x.setBonus(0, bonuses[round][0]);
            x.setBonus(1, bonuses[round][1]);
            x.play(round, EnclosureReferee.PASS);
        }
        CHECK.same("a fall of 40", x.turningPoint(), 2);
        EnclosureReferee y = new EnclosureReferee();
        Boards.play(y, "a1 c2, c3 b3, e1 d3, a5 c4");
        CHECK.same("a capture of player 1", y.turningPoint(), 3);
        CHECK.same("a fall", y.round(3, 6), 3);
    }
}
