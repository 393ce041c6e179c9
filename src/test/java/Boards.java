/** Plays rounds that are written as texts and draws boards as texts, so that tests can be read. */
final class Boards {
    /** The signs of the states 0 to 5. */
    static final String SIGNS = ".XOxo#";

    private Boards() {
    }

    static EnclosureReferee started(int width, int height, int handicap) {
        EnclosureReferee referee = new EnclosureReferee();
        referee.start(width, height, handicap);
        return referee;
    }

    /** The number of the cell with a name such as b3, or PASS for the name -. */
    static int cell(EnclosureReferee referee, String name) {
        return name.equals("-") ? -1 : (name.charAt(1) - '1') * referee.count(1) + name.charAt(0) - 'a';
    }

    /** Plays rounds such as "b3 c4, - a1"; returns what the last one returned. */
    static int play(EnclosureReferee referee, String rounds) {
        int changed = 0;
        for (String round : rounds.split(", ")) {
            String[] names = round.split(" ");
            changed = referee.play(cell(referee, names[0]), cell(referee, names[1]));
        }
        return changed;
    }

    static String drawn(EnclosureReferee referee) {
        StringBuilder text = new StringBuilder();
        for (int row = 0; row < referee.count(2); row++) {
            text.append(row == 0 ? "" : "/");
            for (int column = 0; column < referee.count(1); column++) {
                text.append(SIGNS.charAt(referee.cell(column, row)));
            }
        }
        return text.toString();
    }

    static int feed(EnclosureReferee referee, String text) {
        int length = 0;
        for (int i = 0; i < text.length(); i++) {
            length = referee.feed(text.charAt(i));
        }
        return length;
    }

    static int read(EnclosureReferee referee, String text) {
        feed(referee, text);
        return referee.readRecord();
    }

    static String written(EnclosureReferee referee) {
        StringBuilder text = new StringBuilder();
        try {
            for (int i = 0; i < 1000; i++) {
                text.append(referee.written(i));
            }
        } catch (IndexOutOfBoundsException e) {
            return text.toString();
        }
        return text + " and more";
    }

    static String report(EnclosureReferee referee) {
        StringBuilder text = new StringBuilder();
        for (int level = 0; level < referee.levels(); level++) {
            text.append(level == 0 ? "" : ", ");
            text.append(referee.report(level, 0)).append(' ').append(referee.report(level, 1));
        }
        return text.toString();
    }

    static long set(EnclosureReferee referee, String names) {
        long set = 0;
        for (String name : names.split(" ")) {
            set |= 1L << cell(referee, name);
        }
        return set;
    }

    /** Four stones of player 0 around c3, on which player 1 has a stone: one wave of one cell in round 3. */
    static EnclosureReferee withCapture() {
        EnclosureReferee referee = new EnclosureReferee();
        play(referee, "c2 c3, b3 a1, d3 e1, c4 a5");
        return referee;
    }

    /** A board as drawn() draws it, of stones and blocks that capture nothing while they are placed in this order. */
    static EnclosureReferee placed(String drawing) {
        String signs = drawing.replace("/", "");
        int width = drawing.indexOf('/');
        EnclosureReferee referee = started(width, signs.length() / width, 0);
        for (int cell = signs.indexOf('#'); cell >= 0; cell = signs.indexOf('#', cell + 1)) {
            referee.play(cell, cell);
        }
        int first = signs.indexOf('X');
        int second = signs.indexOf('O');
        while (first >= 0 || second >= 0) {
            referee.play(first, second);
            first = first < 0 ? first : signs.indexOf('X', first + 1);
            second = second < 0 ? second : signs.indexOf('O', second + 1);
        }
        if (!drawn(referee).equals(drawing)) {
            throw new IllegalStateException("it became " + drawn(referee));
        }
        return referee;
    }

    /** A board of 4 by 4 where only the named cells are empty; the other ones are blocks. */
    static EnclosureReferee nearlyFull(String empties) {
        EnclosureReferee referee = started(4, 4, 0);
        for (int cell = 0; cell < 16; cell++) {
            String name = "" + (char) ('a' + cell % 4) + (char) ('1' + cell / 4);
            if (!empties.contains(name)) {
                referee.play(cell, cell);
            }
        }
        return referee;
    }

    /** A game on 4 by 4 cells with so many rounds in which nothing happens but a clash on the first cell. */
    static EnclosureReferee idle(int rounds) {
        EnclosureReferee referee = started(4, 4, 0);
        referee.setRule(1);
        for (int round = 0; round < rounds; round++) {
            referee.play(0, 0);
        }
        return referee;
    }

    /** A game in its middle with something in all that a referee holds, a saved game and a report among them. */
    static EnclosureReferee busy() {
        EnclosureReferee referee = withCapture();
        referee.setBonus(0, 3);
        referee.setBonus(1, 2);
        play(referee, "e5 e5");
        referee.save();
        play(referee, "d5 -");
        referee.setRule(2);
        referee.setBonus(1, 4);
        try {
            referee.play(12, 0);
        } catch (UnsupportedOperationException e) {
            feed(referee, "-");
        }
        return referee;
    }

    /** The same game after both have passed. */
    static EnclosureReferee over() {
        EnclosureReferee referee = busy();
        play(referee, "- -");
        return referee;
    }

    /** The same game with 80 characters in the buffer, which are a record of 17 rounds. */
    static EnclosureReferee withFullBuffer() {
        EnclosureReferee referee = busy();
        referee.setRule(1);
        feed(referee, "b1;" + "c1c1;".repeat(12) + "-d1;-a2;-b2;-d2;");
        return referee;
    }

    /** The cells b3, c3 and d3 with blocks all around them. */
    static EnclosureReferee walled() {
        EnclosureReferee referee = new EnclosureReferee();
        play(referee, "b2 b2, c2 c2, d2 d2, a3 a3, e3 e3, b4 b4, c4 c4, d4 d4");
        return referee;
    }

    /** Two stones that capture one another in walls as often as a round lets them: 8 waves in round 8. */
    static EnclosureReferee withStruggle() {
        EnclosureReferee referee = walled();
        play(referee, "b3 d3");
        return referee;
    }
}
