/** Promises 23 to 25: feed, readRecord, written. */
public final class RecordsTest {
    private static final Check CHECK = new Check("RecordsTest");

    private RecordsTest() {
    }

    public static void main(String[] args) {
        feed();
        readRecord();
        errors();
        signsOfTheBoard();
        roundsThatCannotBePlayed();
        recordAfterTheEnd();
        written();
        writtenRefuses();
        CHECK.end();
    }

    private static void feed() {
        EnclosureReferee x = new EnclosureReferee();
        for (int i = 1; i <= 80; i++) {
            CHECK.same("feed number " + i, x.feed((char) (i * 819)), i);
        }
        CHECK.refused("feed number 81", IllegalStateException.class, () -> x.feed('a'));
        CHECK.refused("feed number 82", IllegalStateException.class, () -> x.feed(';'));
        CHECK.same("it held no record", x.readRecord(), -100);
        CHECK.same("empty again", x.feed('-'), 1);
    }

    private static void readRecord() {
        EnclosureReferee x = new EnclosureReferee();
        CHECK.same("an empty text", x.readRecord(), 0);
        CHECK.same("four rounds", Boards.read(x, "c2c3;b3-;-e1;d3d3;"), 4);
        CHECK.same("the board", Boards.drawn(x), "....O/..X../.XO#./...../.....");
        CHECK.same("two more", Boards.read(x, "c4a1;--;"), 2);
        CHECK.same("with captures", Boards.drawn(x), "O...O/..X../.Xx#./..X../.....");
        CHECK.same("all of it", Boards.written(x), "c2c3;b3-;-e1;d3d3;c4a1;--;");
        CHECK.same("an empty text after the end", x.readRecord(), 0);
        EnclosureReferee y = new EnclosureReferee();
        y.setRule(1);
        CHECK.same("a full buffer", Boards.feed(y, "a1a1;a1a1;a1a1;a1a1;a1a1;a1a1;a1a1;a1a1;"
                + "a1a1;a1a1;a1a1;a1a1;a1a1;a1a1;a1a1;a1a1;"), 80);
        CHECK.same("sixteen rounds", y.readRecord(), 16);
        CHECK.same("clashes", y.count(5), 16);
        CHECK.same("many short rounds", Boards.read(y, "-a1;-a2;-a3;-a4;-a5;-b1;-b2;-b3;-b4;-b5;"
                + "-c1;-c2;-c3;-c4;-c5;-d1;-d2;-d3;-d4;-d5;"), 20);
    }

    private static void errors() {
        EnclosureReferee x = new EnclosureReferee();
        String[] texts = {
            "a", "a1", "a1b", "a1b2", "-", "--", ";", "a1;", "--;;", "a1b2b", "a1b2;a1", "1a", "A1", "a1,", "a-1",
            "a1b2; ", "--;--", "--;--;x", "a1b9;a1", "\0", "\uffff", "a1--", "-a1-;", "a1b2;a1b2;a", "a0", "a:",
        };
        int[] positions = {
            1, 2, 3, 4, 1, 2, 0, 2, 3, 4, 7, 0, 0, 2, 1, 5, 5, 6, 3, 0, 0, 3, 3, 11, 1, 1,
        };
        for (int i = 0; i < texts.length; i++) {
            CHECK.same("the error in " + texts[i], Boards.read(x, texts[i]), -100 - positions[i]);
            CHECK.same("rounds after " + texts[i], x.count(0), 0);
            CHECK.same("levels after " + texts[i], x.levels(), 0);
        }
        CHECK.same("the buffer is empty after an error", x.feed('a'), 1);
    }

    private static void signsOfTheBoard() {
        EnclosureReferee x = Boards.started(4, 7, 0);
        CHECK.same("column e of four", Boards.read(x, "e1a1;"), -100);
        CHECK.same("row 8 of seven", Boards.read(x, "d8a1;"), -101);
        CHECK.same("the last cell", Boards.read(x, "d7a1;"), 1);
        CHECK.same("its number", x.cell(3, 6), 1);
        x.start(7, 4, 0);
        CHECK.same("column h of seven", Boards.read(x, "a1h1;"), -102);
        CHECK.same("row 5 of four", Boards.read(x, "a1g5;"), -103);
        CHECK.same("the last cell of the other board", Boards.read(x, "a1g4;"), 1);
        CHECK.same("its number too", x.cell(6, 3), 2);
        Boards.feed(x, "g4");
        x.start(4, 4, 0);
        CHECK.same("the board of now is asked", x.readRecord(), -100);
    }

    private static void roundsThatCannotBePlayed() {
        EnclosureReferee x = new EnclosureReferee();
        Boards.feed(x, "a1b1;c1d1;e1c1;a2b2;");
        CHECK.refused("a full cell", UnsupportedOperationException.class, x::readRecord);
        CHECK.same("the rounds before it stay", Boards.written(x), "a1b1;c1d1;");
        CHECK.same("the report", Boards.report(x), "1 2, 3 2, 11 1");
        CHECK.same("the buffer is empty", x.feed('-'), 1);
        CHECK.same("and used again", Boards.read(x, "a3;"), 1);
        CHECK.same("rounds", x.count(0), 3);
        Boards.feed(x, "a1a2;a");
        CHECK.same("the syntax comes first", x.readRecord(), -106);
        CHECK.same("the report stays", Boards.report(x), "1 2, 3 2, 11 1");
    }

    private static void recordAfterTheEnd() {
        EnclosureReferee x = new EnclosureReferee();
        Boards.feed(x, "a1b1;--;a1b1;");
        CHECK.refused("over", UnsupportedOperationException.class, x::readRecord);
        CHECK.same("the rounds before it", Boards.written(x), "a1b1;--;");
        CHECK.same("no report", x.levels(), 0);
        CHECK.same("the buffer is empty", x.feed('-'), 1);
        Boards.feed(x, "-;");
        CHECK.refused("still over", UnsupportedOperationException.class, x::readRecord);
        CHECK.same("a syntax error all the same", Boards.read(x, "x"), -100);
    }

    private static void written() {
        EnclosureReferee x = Boards.started(7, 7, 0);
        CHECK.same("no record", Boards.written(x), "");
        Boards.play(x, "g7 a1, - b6, c4 -, e5 e5, - -");
        CHECK.same("the record", Boards.written(x), "g7a1;-b6;c4-;e5e5;--;");
        CHECK.same("the first character", x.written(0), 'g');
        CHECK.same("the last character", x.written(20), ';');
        x.undo();
        CHECK.same("taken back", Boards.written(x), "g7a1;-b6;c4-;e5e5;");
        EnclosureReferee y = Boards.started(4, 7, 0);
        Boards.play(y, "d7 a6, b1 -");
        CHECK.same("of a narrow board", Boards.written(y), "d7a6;b1-;");
        EnclosureReferee z = new EnclosureReferee();
        z.setRule(1);
        for (int round = 0; round < 60; round++) {
            Boards.play(z, "a1 a1");
        }
        CHECK.same("the longest record", z.written(299), ';');
        CHECK.refused("the end of the longest record", IndexOutOfBoundsException.class, () -> (long) z.written(300));
    }

    private static void writtenRefuses() {
        EnclosureReferee x = new EnclosureReferee();
        CHECK.refused("nothing is written", IndexOutOfBoundsException.class, () -> (long) x.written(0));
        Boards.play(x, "a1 -");
        CHECK.refused("after the end", IndexOutOfBoundsException.class, () -> (long) x.written(4));
        CHECK.refused("before the beginning", IndexOutOfBoundsException.class, () -> (long) x.written(-1));
        CHECK.refused("the greatest int", IndexOutOfBoundsException.class, () -> (long) x.written(Integer.MAX_VALUE));
        CHECK.refused("the least int", IndexOutOfBoundsException.class, () -> (long) x.written(Integer.MIN_VALUE));
    }
}
