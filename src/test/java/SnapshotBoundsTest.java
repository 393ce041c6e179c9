/** The boundary cases that the document's sentences name: promises 26 and 27. */
public final class SnapshotBoundsTest {
    private static final Check CHECK = new Check("SnapshotBoundsTest");

    private SnapshotBoundsTest() {
    }

    public static void main(String[] args) {
        nothingSaved();
        saveChangesNothing();
        noRounds();
        sixtyRounds();
        gamesThatAreOver();
        eachBoard();
        ruleAndBonuses();
        inPlaceOfTheEarlierOne();
        staysSaved();
        reportAndBufferStay();
        roundsAfterRestore();
        CHECK.end();
    }

    /** restore "Throws IllegalStateException if nothing was saved": whatever else was done. */
    private static void nothingSaved() {
        CHECK.leavesAll("at first", IllegalStateException.class, EnclosureReferee::new, x -> x.restore());
        CHECK.leavesAll("in a game", IllegalStateException.class, Boards::withStruggle, x -> x.restore());
        CHECK.leavesAll("after the end", IllegalStateException.class, () -> Boards.idle(60), x -> x.restore());
        CHECK.leavesAll("after undo and start", IllegalStateException.class, () -> {
            EnclosureReferee x = Boards.withCapture();
            x.undo();
            x.start(7, 7, 4);
            return x;
        }, x -> x.restore());
    }

    /** save "Returns the number of rounds.", and the game goes on as if it had not been called. */
    private static void saveChangesNothing() {
        EnclosureReferee x = Boards.busy();
        CHECK.same("six rounds", x.save(), 6);
        EnclosureReferee y = Boards.busy();
        CHECK.same("the report", Boards.report(x), Boards.report(y));
        CHECK.same("what is seen", seen(x), seen(y));
        CHECK.same("the input buffer", x.feed('-'), y.feed('-'));
        CHECK.same("undo", x.undo(), 5);
        CHECK.same("the game that was saved", x.restore(), 6);
        CHECK.same("is the same", seen(x), seen(y));
    }

    private static String seen(EnclosureReferee x) {
        StringBuilder text = new StringBuilder(Boards.written(x));
        State.addSeen(x, text);
        int rule = x.setRule(0);
        x.setRule(rule);
        return text.append(" rule ").append(rule).toString();
    }

    /** Saves, does other things, restores; then all is as before, and so are all the rounds that can be taken back. */
    private static void comesBack(String what, Check.Making making, Check.Asking others) {
        EnclosureReferee x = making.referee();
        EnclosureReferee y = making.referee();
        int rounds = y.count(0);
        CHECK.same("saved rounds of " + what, x.save(), rounds);
        y.save();
        others.of(x);
        CHECK.same("restored rounds of " + what, x.restore(), rounds);
        CHECK.same("all of " + what, State.of(x), State.of(y));
    }

    /** Another game with other rounds, rule and bonuses. */
    private static int playAnother(EnclosureReferee x) {
        x.start(7, 4, 3);
        x.setRule(1);
        x.setBonus(0, 13);
        x.setBonus(1, 14);
        for (int round = 0; round < 59; round++) {
            x.play(0, 0);
        }
        return x.play(27, 26);
    }

    /** "Saves the game with its rounds": none. */
    private static void noRounds() {
        comesBack("a new object", EnclosureReferee::new, SnapshotBoundsTest::playAnother);
        comesBack("a new game", () -> Boards.started(4, 7, 4), SnapshotBoundsTest::playAnother);
        comesBack("a game without changes", EnclosureReferee::new, x -> 0);
        comesBack("a new game after a round", EnclosureReferee::new, x -> x.play(0, 1));
    }

    /** "Saves the game with its rounds": the most, and the last one that can be played is still to come. */
    private static void sixtyRounds() {
        comesBack("60 rounds", () -> Boards.idle(60), SnapshotBoundsTest::playAnother);
        comesBack("59 rounds", () -> Boards.idle(59), SnapshotBoundsTest::playAnother);
        comesBack("60 rounds after undo", () -> Boards.idle(60), x -> {
            x.undo();
            return x.undo();
        });
    }

    /** The end comes back too. */
    private static void gamesThatAreOver() {
        comesBack("both passed", Boards::over, SnapshotBoundsTest::playAnother);
        comesBack("a full board", () -> Boards.nearlyFull(""), SnapshotBoundsTest::playAnother);
        EnclosureReferee x = Boards.over();
        x.save();
        x.undo();
        x.restore();
        CHECK.same("over again", x.isOver(), true);
        CHECK.refused("a round", IllegalStateException.class, () -> x.play(1, 3));
    }

    /** A board of each size comes back from one of each other size. */
    private static void eachBoard() {
        for (int width = 4; width <= 7; width++) {
            for (int height = 4; height <= 7; height++) {
                int w = width;
                int h = height;
                comesBack(w + " by " + h, () -> {
                    EnclosureReferee x = Boards.started(w, h, 1);
                    x.play(0, w * h - 1);
                    return x;
                }, x -> {
                    x.start(11 - w, 11 - h, 4);
                    return x.play(0, 2);
                });
            }
        }
    }

    /** "the rule and the bonuses": the least and the greatest. */
    private static void ruleAndBonuses() {
        for (int rule = 0; rule <= 2; rule++) {
            EnclosureReferee x = new EnclosureReferee();
            x.setRule(rule);
            x.setBonus(0, 20 * (rule % 2));
            x.setBonus(1, 20 - 20 * (rule % 2));
            x.save();
            x.setRule((rule + 1) % 3);
            x.setBonus(0, 7);
            x.setBonus(1, 8);
            x.restore();
            CHECK.same("the rule " + rule, x.setRule(rule), rule);
            CHECK.same("the bonus of 0", x.setBonus(0, 1), 20 * (rule % 2));
            CHECK.same("the bonus of 1", x.setBonus(1, 1), 20 - 20 * (rule % 2));
        }
    }

    /** "in place of what was saved before": a longer game by a shorter one, and the other way round. */
    private static void inPlaceOfTheEarlierOne() {
        EnclosureReferee x = Boards.withCapture();
        CHECK.same("four rounds", x.save(), 4);
        x.start(5, 5, 0);
        CHECK.same("no rounds", x.save(), 0);
        Boards.play(x, "a1 b1");
        CHECK.same("restored", x.restore(), 0);
        CHECK.same("the empty board", x.count(3), 25);
        Boards.play(x, "a1 b1, c1 d1");
        CHECK.same("two rounds", x.save(), 2);
        x.undo();
        CHECK.same("two rounds restored", x.restore(), 2);
        CHECK.same("those", Boards.written(x), "a1b1;c1d1;");
    }

    /** "Restores what was saved, which stays saved.": whatever is done with what was restored. */
    private static void staysSaved() {
        EnclosureReferee x = Boards.busy();
        x.save();
        String due = seen(x);
        for (int time = 0; time < 4; time++) {
            CHECK.same("restore " + time, x.restore(), 6);
            CHECK.same("the same", seen(x), due);
            if (time % 2 == 0) {
                x.undo();
                x.undo();
                x.setBonus(0, 9);
                Boards.play(x, "b1 c1, d1 d1");
            }
            x.setRule(1);
        }
        CHECK.same("twice without a change", x.restore() + x.restore(), 12);
    }

    /** "A report stays ... whatever happens in between"; the input buffer is no part of what is saved. */
    private static void reportAndBufferStay() {
        EnclosureReferee x = new EnclosureReferee();
        x.save();
        Boards.play(x, "a1 b1");
        CHECK.refused("a full cell", UnsupportedOperationException.class, () -> x.play(1, 2));
        Boards.feed(x, "a1b");
        x.restore();
        CHECK.same("the report", Boards.report(x), "1 1, 2 1, 12 0");
        CHECK.same("the input buffer", Boards.feed(x, "1;"), 5);
        CHECK.same("its round", x.readRecord(), 1);
        CHECK.same("on the restored board", Boards.drawn(x), "XO.../...../...../...../.....");
    }

    /** What was restored is a game as any other: rounds, undo and its end. */
    private static void roundsAfterRestore() {
        EnclosureReferee x = Boards.idle(58);
        x.save();
        x.start(7, 7, 4);
        x.restore();
        CHECK.same("round 58", Boards.play(x, "b1 c1"), 0);
        CHECK.same("not the last one", x.isOver(), false);
        CHECK.same("round 59", Boards.play(x, "d1 a2"), 0);
        CHECK.same("the last one", x.isOver(), true);
        for (int round = 59; round >= 0; round--) {
            CHECK.same("undo to " + round, x.undo(), round);
        }
        CHECK.refused("no round", IllegalStateException.class, x::undo);
        CHECK.same("what was saved", x.restore(), 58);
    }
}
