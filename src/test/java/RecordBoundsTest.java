/** The boundary cases that the document's sentences name: promises 23 to 25, and the records of the description. */
public final class RecordBoundsTest {
    private static final Check CHECK = new Check("RecordBoundsTest");
    private static final Class<UnsupportedOperationException> REFUSED = UnsupportedOperationException.class;
    /** Characters that stand for a column, a row or a sign only if some of their bits are left out. */
    private static final int[] FAR = {'a' + 256, '1' + 256, ';' + 256, '-' + 256, 0x8000 + 'a', 0xff00 + '1', 0xffff};

    private RecordBoundsTest() {
    }

    public static void main(String[] args) {
        feedCounts();
        feedTakesAnyCharacter();
        feedRefuses();
        emptyText();
        fullBuffer();
        errorAtTheEndOfAFullBuffer();
        eachCharacterInEachPlace();
        endsTooEarly();
        onEachBoard();
        noRoundAfterAnError();
        emptyAfterwards();
        firstMiddleAndLastRound();
        reportOfARound();
        overBeforeTheLastRound();
        sixtyRounds();
        fullBoard();
        boardAndRuleOfNow();
        writtenNothing();
        writtenForms();
        writtenOutside();
        longestRecord();
        writtenAndRead();
        CHECK.end();
    }

    /** feed "Returns the number of characters in the buffer.": 1 to 80. */
    private static void feedCounts() {
        EnclosureReferee x = new EnclosureReferee();
        for (int i = 1; i <= 80; i++) {
            CHECK.same("character " + i, x.feed('-'), i);
        }
    }

    /** "letter: any character": the first one, the last one, and those that end a text elsewhere. */
    private static void feedTakesAnyCharacter() {
        char[] letters = {0, '\n', '\r', 26, ' ', '-', ';', 127, 128, 255, 256, 0xd800, 0xfffe, 0xffff};
        EnclosureReferee x = new EnclosureReferee();
        for (int i = 0; i < letters.length; i++) {
            CHECK.same("character " + (int) letters[i], x.feed(letters[i]), i + 1);
        }
    }

    /** feed "Throws IllegalStateException if the buffer already holds 80 characters": not if it holds 79. */
    private static void feedRefuses() {
        CHECK.leavesAll("character 81", IllegalStateException.class, Boards::withFullBuffer, x -> x.feed('-'));
        CHECK.leavesAll("an odd character 81", IllegalStateException.class, Boards::withFullBuffer,
                x -> x.feed((char) 0xffff));
        EnclosureReferee y = Boards.withFullBuffer();
        CHECK.refused("one more", IllegalStateException.class, () -> y.feed('-'));
        CHECK.same("the 80 are read as they were", y.readRecord(), 17);
        EnclosureReferee x = new EnclosureReferee();
        CHECK.same("79 characters", Boards.feed(x, "-".repeat(79)), 79);
        CHECK.same("character 80", x.feed('-'), 80);
        CHECK.refused("character 81", IllegalStateException.class, () -> x.feed('-'));
        CHECK.refused("character 82", IllegalStateException.class, () -> x.feed('-'));
        x.readRecord();
        CHECK.same("room again", x.feed('-'), 1);
    }

    /** "an empty text has no error": no round is played, also when the game is over. */
    private static void emptyText() {
        EnclosureReferee x = new EnclosureReferee();
        CHECK.same("an empty text", x.readRecord(), 0);
        CHECK.same("another one", x.readRecord(), 0);
        CHECK.same("it changes nothing", State.of(x), State.of(new EnclosureReferee()));
        EnclosureReferee y = Boards.idle(60);
        CHECK.same("an empty text after the end", y.readRecord(), 0);
        CHECK.same("it changes nothing there", State.of(y), State.of(Boards.idle(60)));
    }

    /** A record of 80 characters: 17 rounds, or 16 of the longest form, or 20 of a shorter one. */
    private static void fullBuffer() {
        EnclosureReferee x = Boards.withFullBuffer();
        CHECK.same("17 rounds", x.readRecord(), 17);
        CHECK.same("after six", x.count(0), 23);
        CHECK.same("the last one", x.round(22, 1), 8);
        EnclosureReferee y = Boards.idle(0);
        CHECK.same("16 rounds", Boards.read(y, "a1a1;".repeat(16)), 16);
        CHECK.same("16 more", Boards.read(y, "d4d4;".repeat(16)), 16);
        CHECK.same("all of them", y.count(0), 32);
        EnclosureReferee z = Boards.started(5, 5, 0);
        CHECK.same("20 rounds", Boards.read(z, "-a1;-b1;-c1;-d1;-e1;-a2;-b2;-c2;-d2;-e2;"
                + "-a3;-b3;-c3;-d3;-e3;-a4;-b4;-c4;-d4;-e4;"), 20);
        CHECK.same("20 stones", z.player(1, 1), 20);
    }

    /**
     * "the first character that cannot continue such a text, or the length of the text if it ends too early": 79, 80
     */
    private static void errorAtTheEndOfAFullBuffer() {
        String rounds = "a1a1;".repeat(15);
        CHECK.same("the last character", Boards.read(Boards.idle(0), rounds + "a1a1-"), -179);
        CHECK.same("the last but one", Boards.read(Boards.idle(0), rounds + "a1a-;"), -178);
        CHECK.same("no more than 80", Boards.read(Boards.idle(0), rounds + "-a1;a"), -180);
        CHECK.same("two open ends", Boards.read(Boards.idle(0), rounds + "-a1;-"), -180);
        CHECK.same("the first of 80", Boards.read(Boards.idle(0), ";" + rounds + "a1a1"), -100);
    }

    /** "A text to be read has this form": any character after any beginning of a round. */
    private static void eachCharacterInEachPlace() {
        String choice = "-abcde";
        eachCharacter("", choice);
        eachCharacter("a", "12345");
        eachCharacter("a1", choice);
        eachCharacter("-", choice);
        eachCharacter("a1b", "12345");
        eachCharacter("-b", "12345");
        eachCharacter("a1b1", ";");
        eachCharacter("a1-", ";");
        eachCharacter("-b1", ";");
        eachCharacter("--", ";");
        eachCharacter("a1b1;", choice);
        eachCharacter("a1b1;c", "12345");
    }

    private static void eachCharacter(String before, String allowed) {
        EnclosureReferee x = new EnclosureReferee();
        for (int i = 0; i < 300 + FAR.length; i++) {
            char letter = (char) (i < 300 ? i : FAR[i - 300]);
            boolean fits = allowed.indexOf(letter) >= 0;
            int position = before.length() + (fits ? 1 : 0);
            int due = fits && letter == ';' ? 1 : -100 - position;
            CHECK.same("character " + (int) letter + " after " + before, Boards.read(x, before + letter), due);
            CHECK.same("rounds", x.count(0), due == 1 ? 1 : 0);
            x.start(5, 5, 0);
        }
    }

    /** "or the length of the text if it ends too early": after each character of two rounds but the semicolons. */
    private static void endsTooEarly() {
        String text = "a1-;-b1;c1d1;--;";
        for (int length = 0; length <= text.length(); length++) {
            EnclosureReferee x = new EnclosureReferee();
            String start = text.substring(0, length);
            boolean isWhole = start.isEmpty() || start.endsWith(";");
            int rounds = start.length() - start.replace(";", "").length();
            CHECK.same("the text " + start, Boards.read(x, start), isWhole ? rounds : -100 - length);
            CHECK.same("rounds of " + start, x.count(0), isWhole ? rounds : 0);
        }
    }

    /** "letters and digits must stand for columns and rows of the board" */
    private static void onEachBoard() {
        for (int width = 4; width <= 7; width++) {
            for (int height = 4; height <= 7; height++) {
                EnclosureReferee x = Boards.started(width, height, 0);
                char lastColumn = (char) ('a' + width - 1);
                char lastRow = (char) ('0' + height);
                CHECK.same("a column too much", Boards.read(x, "" + (char) (lastColumn + 1) + "1-;"), -100);
                CHECK.same("a row too much", Boards.read(x, "a" + (char) (lastRow + 1) + "-;"), -101);
                CHECK.same("before the first column", Boards.read(x, "`1-;"), -100);
                CHECK.same("before the first row", Boards.read(x, "a0-;"), -101);
                CHECK.same("a column too much for 1", Boards.read(x, "-" + (char) (lastColumn + 1) + "1;"), -101);
                CHECK.same("a row too much for 1", Boards.read(x, "-a" + (char) (lastRow + 1) + ";"), -102);
                CHECK.same("no round", x.count(0), 0);
                CHECK.same("the corners", Boards.read(x, "a1" + lastColumn + lastRow + ";"
                        + lastColumn + "1a" + lastRow + ";"), 2);
                CHECK.same("their stones", x.cells(1), 1L | 1L << (width - 1));
                CHECK.same("those of 1", x.cells(2), 1L << (width * height - 1) | 1L << (width * (height - 1)));
            }
        }
    }

    /** "-100 minus the error position after a syntax error, and then no round is played": whatever stands before it. */
    private static void noRoundAfterAnError() {
        String[] texts = {"b1;?", "b1;c1d1;e2", "b1;--;--", "b1;c2c2;?", "?", "b1;c1d1;?;"};
        int[] due = {-104, -111, -109, -109, -101, -109};
        for (int i = 0; i < texts.length; i++) {
            EnclosureReferee x = Boards.busy();
            CHECK.same("-" + texts[i], Boards.read(x, texts[i]), due[i]);
            EnclosureReferee y = Boards.busy();
            y.readRecord();
            CHECK.same("after -" + texts[i], State.of(x), State.of(y));
        }
        EnclosureReferee z = Boards.over();
        CHECK.same("after the end too", Boards.read(z, "x"), -101);
        CHECK.same("an open end after the end", Boards.read(z, "a1"), -102);
    }

    /** "The buffer is empty afterwards, also after an error or an exception." */
    private static void emptyAfterwards() {
        EnclosureReferee x = new EnclosureReferee();
        Boards.read(x, "a1b1;");
        CHECK.same("after a record", x.feed('a'), 1);
        CHECK.same("after one more", Boards.feed(x, "2b2;"), 5);
        x.readRecord();
        Boards.read(x, "c1d1");
        CHECK.same("after a syntax error", x.feed(';'), 1);
        x.readRecord();
        Boards.feed(x, "c1d1;a1a1;e1e2;");
        CHECK.refused("a full cell", REFUSED, x::readRecord);
        CHECK.same("after a full cell", x.feed('-'), 1);
        CHECK.same("ends the game", Boards.read(x, "-;"), 1);
        Boards.feed(x, "c3d3;");
        CHECK.refused("over", REFUSED, x::readRecord);
        CHECK.same("after the end", x.feed('-'), 1);
        x.readRecord();
        x.readRecord();
        CHECK.same("after an empty text", x.feed('-'), 1);
    }

    /** "the rounds before it stay played, and the later ones are not played": the first, a middle, the last one. */
    private static void firstMiddleAndLastRound() {
        String[] texts = {"a1b1;c1d1;e1a2;", "c1d1;a1b1;e1a2;", "c1d1;e1a2;b2b1;"};
        for (int i = 0; i < texts.length; i++) {
            EnclosureReferee x = new EnclosureReferee();
            Boards.play(x, "a1 b1");
            Boards.feed(x, texts[i]);
            CHECK.refused(texts[i], REFUSED, x::readRecord);
            CHECK.same("rounds of " + texts[i], x.count(0), 1 + i);
            CHECK.same("they are those before it", Boards.written(x), "a1b1;" + texts[i].substring(0, 5 * i));
        }
        CHECK.leavesReport("a first round that is refused", "1 6, 2 7, 11 0", RecordBoundsTest::busyAndEmpty, x -> {
            Boards.feed(x, "c2b1;d1d1;");
            return x.readRecord();
        });
        CHECK.leavesReport("one that is refused for 1", "1 6, 3 12, 13 3, 20 1", RecordBoundsTest::busyAndEmpty, x -> {
            Boards.feed(x, "-c3;");
            return x.readRecord();
        });
    }

    private static EnclosureReferee busyAndEmpty() {
        EnclosureReferee x = Boards.busy();
        x.readRecord();
        return x;
    }

    /** "if that is because a cell is not empty, this leaves a report": of the round in which it happened. */
    private static void reportOfARound() {
        EnclosureReferee x = new EnclosureReferee();
        Boards.feed(x, "a1b1;c1d1;d1c1;");
        CHECK.refused("both are full", REFUSED, x::readRecord);
        CHECK.same("its report", Boards.report(x), "1 2, 2 3, 12 1");
        Boards.feed(x, "-a1;");
        CHECK.refused("only that of 1", REFUSED, x::readRecord);
        CHECK.same("the next report", Boards.report(x), "1 2, 3 0, 11 0");
    }

    /** readRecord "Throws UnsupportedOperationException if a round cannot be played": also if the game is over. */
    private static void overBeforeTheLastRound() {
        EnclosureReferee x = new EnclosureReferee();
        Boards.feed(x, "--;--;");
        CHECK.refused("a round after both have passed", REFUSED, x::readRecord);
        CHECK.same("one round", x.count(0), 1);
        CHECK.same("no report", x.levels(), 0);
        EnclosureReferee y = new EnclosureReferee();
        CHECK.same("none after it", Boards.read(y, "a1b1;--;"), 2);
        CHECK.same("over", y.isOver(), true);
        CHECK.leavesAll("a record after the end", REFUSED, () -> {
            EnclosureReferee z = Boards.over();
            z.readRecord();
            return z;
        }, z -> {
            Boards.feed(z, "c2c2;");
            return z.readRecord();
        });
    }

    /** "after 60 rounds": a record can play the last one and none after it. */
    private static void sixtyRounds() {
        EnclosureReferee x = Boards.idle(58);
        CHECK.same("the last two", Boards.read(x, "a1a1;b1c1;"), 2);
        CHECK.same("60 rounds", x.count(0), 60);
        EnclosureReferee y = Boards.idle(59);
        Boards.feed(y, "b1c1;d1d1;");
        CHECK.refused("one too many", REFUSED, y::readRecord);
        CHECK.same("60 rounds there too", y.count(0), 60);
        CHECK.same("the last one", y.cells(1) | y.cells(2), 6);
        CHECK.same("no report", y.levels(), 0);
    }

    /** "when no cell is empty": a record can fill the board, and no round follows. */
    private static void fullBoard() {
        EnclosureReferee x = Boards.nearlyFull("a1 d4");
        CHECK.same("the last two cells", Boards.read(x, "a1d4;"), 1);
        CHECK.same("full", x.isOver(), true);
        EnclosureReferee y = Boards.nearlyFull("a1 d4");
        Boards.feed(y, "a1d4;--;");
        CHECK.refused("passing on a full board", REFUSED, y::readRecord);
        CHECK.same("it was filled", y.count(3), 0);
        CHECK.same("no report", y.levels(), 0);
    }

    /** A text is read with the board, the rule and the bonuses of the moment when it is read. */
    private static void boardAndRuleOfNow() {
        EnclosureReferee x = new EnclosureReferee();
        Boards.feed(x, "e5e5;");
        x.setRule(2);
        x.setBonus(1, 1);
        CHECK.same("read now", x.readRecord(), 1);
        CHECK.same("the lower player's stone", x.cell(4, 4), 1);
        Boards.feed(x, "e5e5;");
        x.start(4, 7, 0);
        CHECK.same("no column e now", x.readRecord(), -100);
        Boards.feed(x, "d7d7;");
        x.start(7, 4, 0);
        CHECK.same("no row 7 now", x.readRecord(), -101);
    }

    /** written "Throws IndexOutOfBoundsException if there is no such index": an empty history has none. */
    private static void writtenNothing() {
        Class<IndexOutOfBoundsException> none = IndexOutOfBoundsException.class;
        CHECK.leavesAll("the first of none", none, EnclosureReferee::new, x -> x.written(0));
        EnclosureReferee x = Boards.withCapture();
        while (x.count(0) > 0) {
            x.undo();
        }
        CHECK.refused("the first after undo", none, () -> x.written(0));
        EnclosureReferee y = Boards.withCapture();
        y.start(5, 5, 0);
        CHECK.refused("the first after start", none, () -> y.written(0));
    }

    /** "a letter for the column, from a on, and a digit for the row, from 1 on, or - for passing" */
    private static void writtenForms() {
        for (int width = 4; width <= 7; width++) {
            for (int height = 4; height <= 7; height++) {
                EnclosureReferee x = Boards.started(width, height, 0);
                x.play(0, width * height - 1);
                x.play(width - 1, width);
                char column = (char) ('a' + width - 1);
                char row = (char) ('0' + height);
                CHECK.same("the corners", Boards.written(x), "a1" + column + row + ";" + column + "1a2;");
            }
        }
        EnclosureReferee y = new EnclosureReferee();
        Boards.play(y, "- a1, b1 -, c1 c1, - -");
        CHECK.same("passing", Boards.written(y), "-a1;b1-;c1c1;--;");
    }

    /** The index of written: 0 and the last one; one less, one more, and the ends of int. */
    private static void writtenOutside() {
        String record = "c2c3;b3a1;d3e1;c4a5;e5e5;d5-;";
        EnclosureReferee x = Boards.busy();
        for (int i = 0; i < record.length(); i++) {
            CHECK.same("character " + i, x.written(i), record.charAt(i));
        }
        int[] wrong = {-1, -2, record.length(), record.length() + 1, 300, Integer.MIN_VALUE, Integer.MAX_VALUE};
        for (int i : wrong) {
            CHECK.leavesAll("character " + i, IndexOutOfBoundsException.class, Boards::busy, y -> y.written(i));
        }
        x.undo();
        CHECK.same("the last one after undo", x.written(24), ';');
        CHECK.refused("the first that was taken back", IndexOutOfBoundsException.class, () -> x.written(25));
    }

    /** 60 rounds of five characters, and 59 of five and one of three. */
    private static void longestRecord() {
        EnclosureReferee x = Boards.idle(60);
        CHECK.same("the last of 300", x.written(299), ';');
        CHECK.same("the one before it", x.written(298), '1');
        CHECK.refused("no more", IndexOutOfBoundsException.class, () -> x.written(300));
        x.undo();
        Boards.play(x, "- -");
        CHECK.same("the last of 298", x.written(297), ';');
        CHECK.same("passing", x.written(296), '-');
        CHECK.refused("no more there", IndexOutOfBoundsException.class, () -> x.written(298));
    }

    /** A record that is written can be read, and is written again. */
    private static void writtenAndRead() {
        String record = Boards.written(Boards.busy());
        EnclosureReferee x = new EnclosureReferee();
        CHECK.same("six rounds", Boards.read(x, record), 6);
        CHECK.same("the same record", Boards.written(x), record);
        CHECK.same("the same board", Boards.drawn(x), Boards.drawn(Boards.busy()));
    }
}
