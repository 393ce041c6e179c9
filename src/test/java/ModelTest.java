/** Compares long runs of calls with the model: every answer, every exception, and the whole state behind them. */
public final class ModelTest {
    private static final int RUNS = 600;
    private static final int CALLS = 512;

    private static final Check CHECK = new Check("ModelTest");

    private final Dice dice;
    private final EnclosureReferee referee = new EnclosureReferee();
    private final Model model = new Model();
    private final int looks;
    private String label = "";

    private ModelTest(int run) {
        dice = new Dice(run);
        looks = run % 10 == 0 ? 3 : 0;
    }

    public static void main(String[] args) {
        for (int run = 0; run < RUNS; run++) {
            new ModelTest(run).run(run);
        }
        new ModelTest(RUNS).extremes();
        CHECK.end();
    }

    /** A row of numbers that is the same in every run. */
    private static final class Dice {
        private long state;

        Dice(long seed) {
            state = seed * 0x9E3779B97F4A7C15L + 12345;
        }

        int below(int end) {
            state = state * 6364136223846793005L + 1442695040888963407L;
            return (int) ((state >>> 33) % end);
        }

        boolean oneIn(int n) {
            return below(n) == 0;
        }
    }

    private void run(int run) {
        int side = dice.oneIn(2) ? 4 : 4 + dice.below(4);
        begin(side, dice.oneIn(2) ? side : 4 + dice.below(4), dice.below(5));
        int before = run % 6 == 5 ? fillRounds(40 + dice.below(19)) : 0;
        for (int call = 1 + before; call < CALLS; call++) {
            label = "run " + run + ", call " + call + ": ";
            step();
        }
    }

    /** Numbers from the ends of int, and those that shifts of a long would take for others. */
    private void extremes() {
        int[] numbers = {
            Integer.MIN_VALUE, Integer.MIN_VALUE + 1, -64, -2, -1, 0, 1, 2, 3, 7, 12, 63, 64, 65, 1 << 30,
            Integer.MAX_VALUE - 1, Integer.MAX_VALUE,
        };
        label = "extremes: ";
        for (int a : numbers) {
            one(a);
            for (int b : numbers) {
                two(a, b);
                for (int c : numbers) {
                    same("guarantee(" + a + ", " + b + ", " + c + ")",
                            () -> referee.guarantee(a, b, c), () -> model.guarantee(a, b, c));
                    begin(a, b, c);
                }
            }
        }
        compareState();
    }

    private void one(int a) {
        same("setRule(" + a + ")", () -> referee.setRule(a), () -> model.setRule(a));
        same("count(" + a + ")", () -> referee.count(a), () -> model.count(a));
        same("cells(" + a + ")", () -> referee.cells(a), () -> model.cells(a));
        same("chain(" + a + ")", () -> referee.chain(a), () -> model.chain(a));
        same("share(" + a + ")", () -> (long) (100 * referee.share(a)), () -> (long) (100 * model.share(a)));
        same("written(" + a + ")", () -> referee.written(a), () -> model.written(a));
    }

    private void two(int a, int b) {
        String both = "(" + a + ", " + b + ")";
        same("setBonus" + both, () -> referee.setBonus(a, b), () -> model.setBonus(a, b));
        same("play" + both, () -> referee.play(a, b), () -> model.play(a, b));
        same("cell" + both, () -> referee.cell(a, b), () -> model.cell(a, b));
        same("since" + both, () -> referee.since(a, b), () -> model.since(a, b));
        same("player" + both, () -> referee.player(a, b), () -> model.player(a, b));
        same("region" + both, () -> referee.region(a, b), () -> model.region(a, b));
        same("stonesToEnclose" + both, () -> referee.stonesToEnclose(a, b), () -> model.stonesToEnclose(a, b));
        same("round" + both, () -> referee.round(a, b), () -> model.round(a, b));
        same("best" + both, () -> referee.best(a, b), () -> model.best(a, b));
        same("report" + both, () -> referee.report(a, b), () -> model.report(a, b));
    }

    /** Clashes without effect, so that some games come to their last rounds with empty cells. */
    private int fillRounds(int rounds) {
        same("setRule(1)", () -> referee.setRule(1), () -> model.setRule(1));
        for (int round = 0; round < rounds; round++) {
            same("play(0, 0)", () -> referee.play(0, 0), () -> model.play(0, 0));
        }
        return rounds + 1;
    }

    private void begin(int width, int height, int handicap) {
        same("start(" + width + ", " + height + ", " + handicap + ")",
                () -> referee.start(width, height, handicap), () -> model.start(width, height, handicap));
    }

    private void same(String what, Check.Call got, Check.Call want) {
        CHECK.same(label + what, Answer.of(got), Answer.of(want));
    }

    private void step() {
        int kind = dice.below(100);
        if (kind < 40) {
            playRound();
        } else if (kind < 60) {
            askPosition();
        } else if (kind < 70) {
            askRounds();
        } else if (kind < 78) {
            record();
        } else if (kind < 84) {
            change();
        } else if (kind < 90) {
            same("undo()", referee::undo, model::undo);
        } else if (kind < 94) {
            same("isOver()", () -> referee.isOver() ? 1 : 0, () -> model.isOver() ? 1 : 0);
            compareState();
        } else if (dice.below(4) < looks || model.count(3) <= 6) {
            lookAhead();
        } else {
            snapshot();
        }
    }

    private void playRound() {
        int first = choice();
        int second = dice.oneIn(3) ? first : choice();
        same("play(" + first + ", " + second + ")",
                () -> referee.play(first, second), () -> model.play(first, second));
    }

    /** Mostly an empty cell, so that games go on. */
    private int choice() {
        int size = model.count(1) * model.count(2);
        if (dice.oneIn(12)) {
            return -1;
        }
        if (dice.oneIn(25)) {
            return dice.below(size + 6) - 3;
        }
        long empty = model.cells(0);
        int cell = dice.below(size);
        for (int i = 0; i < size; i++) {
            int next = (cell + i) % size;
            if ((empty >> next & 1) != 0) {
                return next;
            }
        }
        return cell;
    }

    private int anyCell() {
        return dice.below(model.count(1) * model.count(2) + 2) - 1;
    }

    private int anyPlayer() {
        return dice.oneIn(15) ? dice.below(5) - 2 : dice.below(2);
    }

    private void askPosition() {
        int player = anyPlayer();
        int cell = anyCell();
        int what = dice.below(10) - 1;
        int column = dice.below(9) - 1;
        int row = dice.below(9) - 1;
        int kind = dice.below(8);
        if (kind == 0) {
            same("cell(" + column + ", " + row + ")", () -> referee.cell(column, row), () -> model.cell(column, row));
        } else if (kind == 1) {
            int part = dice.below(4) - 1;
            same("since(" + cell + ", " + part + ")", () -> referee.since(cell, part), () -> model.since(cell, part));
        } else if (kind == 2) {
            same("count(" + what + ")", () -> referee.count(what), () -> model.count(what));
        } else if (kind == 3) {
            same("player(" + player + ", " + what + ")",
                    () -> referee.player(player, what), () -> model.player(player, what));
        } else if (kind == 4) {
            same("region(" + player + ", " + cell + ")",
                    () -> referee.region(player, cell), () -> model.region(player, cell));
        } else if (kind == 5) {
            same("cells(" + what + ")", () -> referee.cells(what), () -> model.cells(what));
        } else if (kind == 6) {
            same("chain(" + cell + ")", () -> referee.chain(cell), () -> model.chain(cell));
        } else {
            same("share(" + player + ")", () -> Double.doubleToLongBits(referee.share(player)),
                    () -> Double.doubleToLongBits(model.share(player)));
            if (dice.oneIn(6)) {
                same("stonesToEnclose(" + player + ", " + cell + ")",
                        () -> referee.stonesToEnclose(player, cell), () -> model.stonesToEnclose(player, cell));
            }
        }
    }

    private void askRounds() {
        int round = dice.below(model.count(0) + 2) - 1;
        int what = dice.below(9) - 1;
        int level = dice.below(6) - 1;
        int part = dice.below(4) - 1;
        int kind = dice.below(4);
        if (kind == 0) {
            same("round(" + round + ", " + what + ")", () -> referee.round(round, what), () -> model.round(round, what));
        } else if (kind == 1) {
            same("turningPoint()", referee::turningPoint, model::turningPoint);
        } else if (kind == 2) {
            same("levels()", referee::levels, model::levels);
        } else {
            same("report(" + level + ", " + part + ")",
                    () -> referee.report(level, part), () -> model.report(level, part));
        }
    }

    private void record() {
        int kind = dice.below(4);
        if (kind == 0) {
            same("readRecord()", referee::readRecord, model::readRecord);
        } else if (kind == 1) {
            int i = dice.below(5 * model.count(0) + 3) - 1;
            same("written(" + i + ")", () -> referee.written(i), () -> model.written(i));
        } else {
            int rounds = dice.below(5);
            for (int i = 0; i < rounds; i++) {
                feed(name(choice()) + name(choice()) + (dice.oneIn(25) ? "" : ";"));
            }
            if (dice.oneIn(20)) {
                feed("" + (char) ('-' + dice.below(70)));
            }
        }
    }

    private String name(int choice) {
        int width = model.count(1);
        return choice < 0 ? "-" : "" + (char) ('a' + choice % width) + (char) ('1' + choice / width);
    }

    private void feed(String text) {
        for (int i = 0; i < text.length(); i++) {
            char letter = text.charAt(i);
            same("feed(" + letter + ")", () -> referee.feed(letter), () -> model.feed(letter));
        }
    }

    private void change() {
        if (dice.oneIn(2)) {
            int rule = dice.oneIn(8) ? dice.below(6) - 1 : dice.below(3);
            same("setRule(" + rule + ")", () -> referee.setRule(rule), () -> model.setRule(rule));
        } else {
            int player = anyPlayer();
            int bonus = dice.oneIn(8) ? dice.below(24) - 1 : dice.below(4);
            same("setBonus(" + player + ", " + bonus + ")",
                    () -> referee.setBonus(player, bonus), () -> model.setBonus(player, bonus));
        }
    }

    private void snapshot() {
        int kind = dice.below(5);
        if (kind == 0) {
            same("save()", referee::save, model::save);
        } else if (kind == 1) {
            same("restore()", referee::restore, model::restore);
        } else if (kind == 2 && dice.oneIn(4)) {
            begin(4 + dice.below(4), 4 + dice.below(4), dice.below(5));
        } else if (kind == 3 && dice.oneIn(4)) {
            begin(dice.below(9), 4 + dice.below(5), dice.below(7) - 1);
        }
    }

    private void lookAhead() {
        int player = anyPlayer();
        int depth = dice.oneIn(20) ? dice.below(4) : model.count(3) <= 6 ? 2 : 1;
        int choice = choice();
        same("guarantee(" + player + ", " + choice + ", " + depth + ")",
                () -> referee.guarantee(player, choice, depth), () -> model.guarantee(player, choice, depth));
        if (model.count(3) <= 12 && (model.count(3) <= 4 || dice.oneIn(4))) {
            same("best(" + player + ", " + depth + ")",
                    () -> referee.best(player, depth), () -> model.best(player, depth));
        }
    }

    private void compareState() {
        for (int state = 0; state < 6; state++) {
            int s = state;
            same("all of cells(" + s + ")", () -> referee.cells(s), () -> model.cells(s));
        }
        for (int cell = 0; cell < model.count(1) * model.count(2); cell++) {
            int c = cell;
            same("all of since(" + c + ")", () -> referee.since(c, 0) * 100 + referee.since(c, 1),
                    () -> model.since(c, 0) * 100 + model.since(c, 1));
        }
        for (int what = 0; what < 8; what++) {
            int w = what;
            same("all of count(" + w + ")", () -> referee.count(w), () -> model.count(w));
            same("all of player(0, " + w + ")", () -> referee.player(0, w), () -> model.player(0, w));
            same("all of player(1, " + w + ")", () -> referee.player(1, w), () -> model.player(1, w));
        }
    }
}
