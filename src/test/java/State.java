/** All that a referee answers, as a text: what it holds now, and what of it shows only later. */
final class State {
    private State() {
    }

    /** Asking for it changes the referee, so that it can be asked once. */
    static String of(EnclosureReferee referee) {
        String report = "report " + Boards.report(referee);
        return report + butReport(referee);
    }

    /** What stays when a round is refused; it changes the referee too. */
    static String butReport(EnclosureReferee referee) {
        StringBuilder text = new StringBuilder("; record " + Boards.written(referee));
        addSeen(referee, text);
        int rule = referee.setRule(0);
        referee.setRule(rule);
        text.append("; rule ").append(rule);
        addBuffer(referee, text);
        addPast(referee, text);
        addKept(referee, text);
        return text.toString();
    }

    /** What questions answer that change nothing. */
    static void addSeen(EnclosureReferee referee, StringBuilder text) {
        text.append("; over ").append(referee.isOver()).append("; counts");
        for (int what = 0; what < 7; what++) {
            text.append(' ').append(referee.count(what));
        }
        text.append("; players");
        for (int what = 0; what < 8; what++) {
            text.append(' ').append(referee.player(0, what)).append(',').append(referee.player(1, what));
        }
        addCells(referee, text);
        long empty = referee.cells(0);
        for (int cell = 0; cell < referee.count(1) * referee.count(2); cell++) {
            if ((empty >> cell & 1) == 0) {
                text.append(' ').append(referee.since(cell, 0)).append(',').append(referee.since(cell, 1));
            }
        }
        text.append("; rounds");
        for (int round = 0; round < referee.count(0); round++) {
            for (int what = 0; what < 7; what++) {
                text.append(' ').append(referee.round(round, what));
            }
        }
    }

    private static void addCells(EnclosureReferee referee, StringBuilder text) {
        text.append("; cells");
        for (int state = 0; state < 6; state++) {
            text.append(' ').append(Long.toHexString(referee.cells(state)));
        }
    }

    /** The buffer shows in what is played when it is read. */
    private static void addBuffer(EnclosureReferee referee, StringBuilder text) {
        text.append("; buffer");
        for (char letter : new char[] {'-', ';'}) {
            text.append(' ').append(Answer.of(() -> referee.feed(letter)));
        }
        text.append(' ').append(Answer.of(referee::readRecord)).append(' ').append(referee.count(0));
        addCells(referee, text);
    }

    private static void addPast(EnclosureReferee referee, StringBuilder text) {
        text.append("; past");
        while (referee.count(0) > 0) {
            referee.undo();
            addCells(referee, text);
        }
    }

    private static void addKept(EnclosureReferee referee, StringBuilder text) {
        text.append("; kept ").append(Answer.of(referee::restore)).append(' ').append(referee.setRule(0));
        addSeen(referee, text);
        addPast(referee, text);
    }
}
