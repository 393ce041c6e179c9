import java.util.NoSuchElementException;

/** Promises 17 and 18: round, turningPoint. */
public final class RoundsTest {
    private static final Check CHECK = new Check("RoundsTest");

    private RoundsTest() {
    }

    public static void main(String[] args) {
        round();
        roundRefuses();
        turningPoint();
        turningPointWithBonuses();
        CHECK.end();
    }

    private static void sameParts(EnclosureReferee x, int round, int... parts) {
        for (int what = 0; what < parts.length; what++) {
            CHECK.same("round(" + round + ", " + what + ")", x.round(round, what), parts[what]);
        }
    }

    private static void round() {
        EnclosureReferee x = Boards.withCapture();
        x.setRule(1);
        x.setBonus(1, 4);
        Boards.play(x, "- e5");
        x.setBonus(1, 9);
        x.setBonus(0, 1);
        Boards.play(x, "d5 d5, - -");
        sameParts(x, 0, 7, 12, 0, 0, 0, 0, 0);
        sameParts(x, 3, 17, 20, 0, 1, 1, 3, 0);
        sameParts(x, 4, -1, 24, 0, 0, 0, 3, 4);
        sameParts(x, 5, 23, 23, 1, 0, 0, 4, 9);
        sameParts(x, 6, -1, -1, 0, 0, 0, 4, 9);
        EnclosureReferee y = Boards.withStruggle();
        sameParts(y, 8, 11, 13, 0, 8, 16, 3, 3);
        sameParts(y, 0, 6, 6, 1, 0, 0, 0, 0);
    }

    private static void roundRefuses() {
        EnclosureReferee x = Boards.withCapture();
        CHECK.refused("round 4", IndexOutOfBoundsException.class, () -> x.round(4, 0));
        CHECK.refused("round -1", IndexOutOfBoundsException.class, () -> x.round(-1, 7));
        CHECK.refused("what 7", IllegalArgumentException.class, () -> x.round(3, 7));
        CHECK.refused("what -1", IllegalArgumentException.class, () -> x.round(0, -1));
        EnclosureReferee y = new EnclosureReferee();
        CHECK.refused("round 0 of none", IndexOutOfBoundsException.class, () -> y.round(0, 0));
    }

    private static void turningPoint() {
        EnclosureReferee x = new EnclosureReferee();
        CHECK.refused("no round", NoSuchElementException.class, x::turningPoint);
        Boards.play(x, "c2 c3");
        CHECK.same("no change", x.turningPoint(), 0);
        Boards.play(x, "b3 a1, d3 e1, c4 a5, d4 e5");
        CHECK.same("the capture", x.turningPoint(), 3);
        x.undo();
        x.undo();
        CHECK.same("taken back", x.turningPoint(), 0);
        EnclosureReferee y = new EnclosureReferee();
        Boards.play(y, "a1 c2, c3 b3, e1 d3, a5 c4, b1 e5");
        CHECK.same("the capture of player 1", y.turningPoint(), 3);
        y.undo();
        y.setBonus(1, 10);
        Boards.play(y, "b1 e5");
        CHECK.same("a bonus of player 1", y.turningPoint(), 0);
        y.setBonus(1, 0);
        CHECK.same("the bonus in the later round", y.turningPoint(), 4);
        CHECK.refused("taken back and started", NoSuchElementException.class, () -> {
            x.start(4, 4, 0);
            return x.turningPoint();
        });
    }

    private static void turningPointWithBonuses() {
        EnclosureReferee x = new EnclosureReferee();
        x.setBonus(0, 5);
        Boards.play(x, "a1 b1");
        x.setBonus(0, 0);
        CHECK.same("the beginning is with the bonuses of now", x.turningPoint(), 0);
        Boards.play(x, "c1 d1");
        CHECK.same("the first of two that change as much", x.turningPoint(), 0);
        x.setBonus(1, 6);
        Boards.play(x, "a2 b2");
        CHECK.same("a change of 11 at the beginning", x.turningPoint(), 0);
        x.setBonus(0, 5);
        x.setBonus(1, 0);
        CHECK.same("a change of 6 in round 2", x.turningPoint(), 2);
        x.setBonus(0, 20);
        CHECK.same("a change of 15 downwards", x.turningPoint(), 0);
        x.setBonus(0, 10);
        CHECK.same("a fall of 6 after two changes of 5", x.turningPoint(), 2);
    }
}
