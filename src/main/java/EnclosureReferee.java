import java.util.NoSuchElementException;

/**
 * The referee of the document's game. The methods of the face look at their arguments and throw; what lies below them
 * is called with arguments that fit, and never throws.
 */
public final class EnclosureReferee {
    public static final int PASS = -1;

    private static final int EMPTY = 0;
    /** The state of a stone of player 0; that of player 1 is the next number, and so for AREA. */
    private static final int STONE = 1;
    private static final int AREA = 3;
    private static final int BLOCK = 5;
    private static final int STATES = 6;

    private static final int FIRST_SIDE = 5;
    private static final int MIN_SIDE = 4;
    private static final int MAX_SIDE = 7;
    private static final int MAX_HANDICAP = 4;
    private static final int MAX_BONUS = 20;
    private static final int MAX_ROUNDS = 60;
    private static final int MAX_WAVES = 8;
    private static final int MAX_STONES_AROUND = 2;
    private static final int MAX_DEPTH = 2;
    private static final int MAX_EMPTY_AT_MAX_DEPTH = 6;
    /** No outcome comes near it: 49 cells, each captured at most once as a stone, and bonuses up to 20. */
    private static final int BEYOND_SCORES = 1000000;

    private static final int CLASH_BLOCKS = 0;
    private static final int CLASH_IS_NOTHING = 1;
    private static final int CLASH_HELPS_LOWER = 2;

    private static final int MAX_LEVELS = 4;
    private static final int MAX_SIGNS = 80;
    private static final int SYNTAX_ERROR = -100;
    private static final int NO_ERROR = -1;

    private final Game game = new Game();
    private final Game kept = new Game();
    private boolean hasKept = false;
    private final Refusal refusal = new Refusal();
    private final Input input = new Input();
    private final Foresight foresight = new Foresight();

    public EnclosureReferee() {
    }

    public int start(int width, int height, int handicap) throws IllegalArgumentException {
        if (width < MIN_SIDE || width > MAX_SIDE || height < MIN_SIDE || height > MAX_SIDE) {
            throw new IllegalArgumentException("no such board");
        }
        if (handicap < 0 || handicap > MAX_HANDICAP) {
            throw new IllegalArgumentException("no such handicap");
        }
        game.begin(width, height, handicap);
        return game.latest().number(EMPTY);
    }

    public int setRule(int rule) throws IllegalArgumentException {
        if (rule < CLASH_BLOCKS || rule > CLASH_HELPS_LOWER) {
            throw new IllegalArgumentException("no such rule");
        }
        int previous = game.rule;
        game.rule = rule;
        return previous;
    }

    public int setBonus(int player, int bonus) throws IndexOutOfBoundsException, IllegalArgumentException {
        if (!isPlayer(player)) {
            throw new IndexOutOfBoundsException("no such player");
        }
        if (bonus < 0 || bonus > MAX_BONUS) {
            throw new IllegalArgumentException("no such bonus");
        }
        int previous = game.bonus(player);
        game.changeBonus(player, bonus);
        return previous;
    }

    public int play(int first, int second)
            throws IndexOutOfBoundsException, IllegalStateException, UnsupportedOperationException {
        if (!isChoice(first) || !isChoice(second)) {
            throw new IndexOutOfBoundsException("no such cell");
        }
        if (game.hasEnded()) {
            throw new IllegalStateException("the game is over");
        }
        if (!admits(first, second)) {
            throw new UnsupportedOperationException("the cell is not empty");
        }
        return game.addRound(first, second);
    }

    public int undo() throws IllegalStateException {
        if (game.played == 0) {
            throw new IllegalStateException("there is no round");
        }
        game.played--;
        return game.played;
    }

    public boolean isOver() {
        return game.hasEnded();
    }

    public int cell(int column, int row) throws IndexOutOfBoundsException {
        Board board = game.board;
        if (column < 0 || column >= board.width || row < 0 || row >= board.height) {
            throw new IndexOutOfBoundsException("no such cell");
        }
        return game.latest().stateOf(board.cellAt(column, row));
    }

    public int since(int cell, int what) throws IndexOutOfBoundsException, IllegalArgumentException {
        if (!game.board.has(cell)) {
            throw new IndexOutOfBoundsException("no such cell");
        }
        switch (what) {
            case 0:
                return game.roundThatChanged(cell);
            case 1:
                return game.waveThatChanged(cell);
            default:
                throw new IllegalArgumentException("no such number");
        }
    }

    public int count(int what) throws IllegalArgumentException {
        switch (what) {
            case 0:
                return game.played;
            case 1:
                return game.board.width;
            case 2:
                return game.board.height;
            case 3:
                return game.latest().number(EMPTY);
            case 4:
                return game.latest().number(BLOCK);
            case 5:
                return game.clashes();
            case 6:
                return game.waves();
            default:
                throw new IllegalArgumentException("no such count");
        }
    }

    public int player(int player, int what) throws IndexOutOfBoundsException, IllegalArgumentException {
        if (!isPlayer(player)) {
            throw new IndexOutOfBoundsException("no such player");
        }
        Position position = game.latest();
        switch (what) {
            case 0:
                return game.score(player);
            case 1:
                return position.number(STONE + player);
            case 2:
                return position.number(AREA + player);
            case 3:
                return position.captured(player);
            case 4:
                return game.bonus(player);
            case 5:
                return game.passes(player);
            case 6:
                return position.regions(game.board, player);
            case 7:
                return position.largestRegion(game.board, player);
            default:
                throw new IllegalArgumentException("no such number");
        }
    }

    public long region(int player, int cell) throws IndexOutOfBoundsException, NoSuchElementException {
        if (!isPlayer(player) || !game.board.has(cell)) {
            throw new IndexOutOfBoundsException("no such player or cell");
        }
        long region = game.board.flood(1L << cell, game.latest().open(game.board, player));
        if (region == 0) {
            throw new NoSuchElementException("the cell is its own or a block");
        }
        return region;
    }

    public long cells(int state) throws IllegalArgumentException {
        if (state < EMPTY || state > BLOCK) {
            throw new IllegalArgumentException("no such state");
        }
        return game.latest().in(state);
    }

    public long chain(int cell) throws IndexOutOfBoundsException, NoSuchElementException {
        if (!game.board.has(cell)) {
            throw new IndexOutOfBoundsException("no such cell");
        }
        Position position = game.latest();
        int state = position.stateOf(cell);
        if (state != STONE && state != STONE + 1) {
            throw new NoSuchElementException("there is no stone");
        }
        return game.board.flood(1L << cell, position.in(state));
    }

    public int stonesToEnclose(int player, int cell) throws IndexOutOfBoundsException, NoSuchElementException {
        if (!isPlayer(player) || !game.board.has(cell)) {
            throw new IndexOutOfBoundsException("no such player or cell");
        }
        Position position = game.latest();
        if ((position.open(game.board, player) & (1L << cell)) == 0) {
            throw new NoSuchElementException("the cell is its own or a block");
        }
        int stones = position.stonesAround(game.board, player, cell);
        if (stones > MAX_STONES_AROUND) {
            throw new NoSuchElementException("more stones would be needed");
        }
        return stones;
    }

    public double share(int player) throws IndexOutOfBoundsException {
        if (!isPlayer(player)) {
            throw new IndexOutOfBoundsException("no such player");
        }
        return game.board.partOfBoard(game.latest().own(player));
    }

    public int round(int round, int what) throws IndexOutOfBoundsException, IllegalArgumentException {
        if (round < 0 || round >= game.played || round >= MAX_ROUNDS) {
            throw new IndexOutOfBoundsException("no such round");
        }
        Round part = game.rounds[round];
        switch (what) {
            case 0:
            case 1:
                return part.choice(what);
            case 2:
                return part.isClash() ? 1 : 0;
            case 3:
                return part.waves();
            case 4:
                return part.changedByWaves();
            case 5:
                return part.score0;
            case 6:
                return part.score1;
            default:
                throw new IllegalArgumentException("no such part");
        }
    }

    public int turningPoint() throws NoSuchElementException {
        if (game.played == 0) {
            throw new NoSuchElementException("there is no round");
        }
        return game.roundOfGreatestChange();
    }

    public int guarantee(int player, int choice, int depth)
            throws IndexOutOfBoundsException, IllegalArgumentException, IllegalStateException {
        if (!isPlayer(player) || !isChoice(choice)) {
            throw new IndexOutOfBoundsException("no such player or cell");
        }
        if (!isDepth(depth)) {
            throw new IllegalArgumentException("no such depth");
        }
        if (!canLookAhead(depth) || !game.latest().admits(choice)) {
            throw new IllegalStateException("the choice cannot be made or looked into");
        }
        return foresight.leastValue(game, game.latest(), player, choice, depth);
    }

    public int best(int player, int depth)
            throws IndexOutOfBoundsException, IllegalArgumentException, IllegalStateException {
        if (!isPlayer(player)) {
            throw new IndexOutOfBoundsException("no such player");
        }
        if (!isDepth(depth)) {
            throw new IllegalArgumentException("no such depth");
        }
        if (!canLookAhead(depth)) {
            throw new IllegalStateException("the choices cannot be looked into");
        }
        Position position = game.latest();
        int bestCell = PASS;
        int greatest = -BEYOND_SCORES;
        for (int cell = 0; cell < game.board.size; cell++) {
            int value = position.admits(cell)
                    ? foresight.leastValue(game, position, player, cell, depth) : -BEYOND_SCORES;
            if (value > greatest) {
                greatest = value;
                bestCell = cell;
            }
        }
        return foresight.leastValue(game, position, player, PASS, depth) > greatest ? PASS : bestCell;
    }

    public int levels() {
        return refusal.height;
    }

    public int report(int level, int what) throws NoSuchElementException, IllegalArgumentException {
        if (level < 0 || level >= refusal.height || level >= MAX_LEVELS) {
            throw new NoSuchElementException("no such level");
        }
        switch (what) {
            case 0:
                return refusal.codes[level];
            case 1:
                return refusal.details[level];
            default:
                throw new IllegalArgumentException("no such part");
        }
    }

    public int feed(char letter) throws IllegalStateException {
        if (!input.append(letter)) {
            throw new IllegalStateException("the buffer is full");
        }
        return input.length;
    }

    public int readRecord() throws UnsupportedOperationException {
        int error = input.parse(game.board);
        input.length = 0;
        if (error != NO_ERROR) {
            return SYNTAX_ERROR - error;
        }
        int rounds = input.choicesRead / 2;
        for (int i = 0; i < rounds; i++) {
            int first = input.choice(2 * i);
            int second = input.choice(2 * i + 1);
            if (game.hasEnded() || !admits(first, second)) {
                throw new UnsupportedOperationException("the round cannot be played");
            }
            game.addRound(first, second);
        }
        return rounds;
    }

    public char written(int i) throws IndexOutOfBoundsException {
        int offset = i;
        for (int round = 0; round < game.played && round < MAX_ROUNDS && offset >= 0; round++) {
            Round part = game.rounds[round];
            if (offset < part.signs()) {
                return part.sign(game.board, offset);
            }
            offset -= part.signs();
        }
        throw new IndexOutOfBoundsException("no such character");
    }

    public int save() {
        kept.copyFrom(game);
        hasKept = true;
        return game.played;
    }

    public int restore() throws IllegalStateException {
        if (!hasKept) {
            throw new IllegalStateException("nothing was saved");
        }
        game.copyFrom(kept);
        return game.played;
    }

    private static boolean isPlayer(int player) {
        return player == 0 || player == 1;
    }

    private static boolean isDepth(int depth) {
        return depth >= 1 && depth <= MAX_DEPTH;
    }

    private boolean isChoice(int choice) {
        return choice == PASS || game.board.has(choice);
    }

    private boolean canLookAhead(int depth) {
        boolean tooMany = depth == MAX_DEPTH && game.latest().number(EMPTY) > MAX_EMPTY_AT_MAX_DEPTH;
        return !game.hasEnded() && !tooMany;
    }

    /** Both play and readRecord refuse a cell by this one, so that both leave the same report. */
    private boolean admits(int first, int second) {
        Position position = game.latest();
        if (!position.admits(first)) {
            refusal.tell(game, 2, first);
            return false;
        }
        if (!position.admits(second)) {
            refusal.tell(game, 3, second);
            return false;
        }
        return true;
    }

    /** The shape of a board. It never changes, so that games can share one. Sets of cells are bits of a long. */
    private static final class Board {
        final int width;
        final int height;
        final int size;
        final long all;
        final long edge;
        private final long leftColumn;
        private final long rightColumn;

        Board(int width, int height) {
            this.width = width;
            this.height = height;
            size = width * height;
            all = (1L << size) - 1;
            long left = 0;
            for (int row = 0; row < height; row++) {
                left |= 1L << (row * width);
            }
            leftColumn = left;
            rightColumn = left << (width - 1);
            long topRow = (1L << width) - 1;
            edge = leftColumn | rightColumn | topRow | topRow << (size - width);
        }

        boolean has(int cell) {
            return cell >= 0 && cell < size;
        }

        int cellAt(int column, int row) {
            return row * width + column;
        }

        int rowOf(int cell) {
            return width == 0 ? 0 : cell / width;
        }

        int columnOf(int cell) {
            return cell - rowOf(cell) * width;
        }

        double partOfBoard(long cells) {
            return size == 0 ? 0.0 : (double) Long.bitCount(cells) / (double) size;
        }

        /** The allowed cells that are connected with the seed; as many steps as cells reach any of them. */
        long flood(long seed, long allowed) {
            long found = seed & allowed;
            for (int step = 0; step < size; step++) {
                long toTheRight = (found & ~rightColumn) << 1;
                long toTheLeft = (found & ~leftColumn) >>> 1;
                long wider = (found | toTheRight | toTheLeft | found << width | found >>> width) & allowed;
                if (wider == found) {
                    break;
                }
                found = wider;
            }
            return found;
        }

        boolean isInside(long seed, long allowed) {
            return (flood(seed, allowed) & edge) == 0;
        }
    }

    /** What lies on the cells, and the stones that the players have captured until then. */
    private static final class Position {
        private final long[] sets = new long[STATES];
        private int captured0;
        private int captured1;

        void clear(long all) {
            for (int state = 0; state < STATES; state++) {
                sets[state] = state == EMPTY ? all : 0;
            }
            captured0 = 0;
            captured1 = 0;
        }

        void copyFrom(Position other) {
            System.arraycopy(other.sets, 0, sets, 0, STATES);
            captured0 = other.captured0;
            captured1 = other.captured1;
        }

        long in(int state) {
            return state >= 0 && state < STATES ? sets[state] : 0;
        }

        int number(int state) {
            return Long.bitCount(in(state));
        }

        int stateOf(int cell) {
            int found = EMPTY;
            for (int state = 0; state < STATES; state++) {
                if ((sets[state] >>> cell & 1) != 0) {
                    found = state;
                }
            }
            return found;
        }

        boolean admits(int choice) {
            return choice == PASS || (sets[EMPTY] >>> choice & 1) != 0;
        }

        int captured(int player) {
            return player == 0 ? captured0 : captured1;
        }

        int points(int player) {
            return number(AREA + player) + 2 * captured(player);
        }

        /** How many points player 0 is ahead, without bonuses. */
        int lead() {
            return Long.bitCount(sets[AREA]) - Long.bitCount(sets[AREA + 1]) + 2 * (captured0 - captured1);
        }

        long own(int player) {
            return player == 0 ? sets[STONE] | sets[AREA] : sets[STONE + 1] | sets[AREA + 1];
        }

        /** The cells of which the player's regions consist. */
        long open(Board board, int player) {
            return board.all & ~own(player) & ~sets[BLOCK];
        }

        int regions(Board board, int player) {
            long open = open(board, player);
            int regions = 0;
            for (int cell = 0; cell < board.size; cell++) {
                long region = board.flood(1L << cell, open);
                open &= ~region;
                regions += region == 0 ? 0 : 1;
            }
            return regions;
        }

        int largestRegion(Board board, int player) {
            long open = open(board, player);
            int largest = 0;
            for (int cell = 0; cell < board.size; cell++) {
                largest = Math.max(largest, Long.bitCount(board.flood(1L << cell, open)));
            }
            return largest;
        }

        void turn(long cells, int state) {
            for (int other = 0; other < STATES; other++) {
                sets[other] = other == state ? sets[other] | cells : sets[other] & ~cells;
            }
        }

        /** Gives the state to a chosen cell; answers the set of what changed. */
        long give(int choice, int state) {
            if (choice == PASS || state == EMPTY) {
                return 0;
            }
            long cell = 1L << choice;
            turn(cell, state);
            return cell;
        }

        /** Makes a wave; answers the set of cells that it changed. */
        long capture(Board board) {
            long open0 = open(board, 0);
            long open1 = open(board, 1);
            long enclosed0 = open0 & ~board.flood(board.edge, open0);
            long enclosed1 = open1 & ~board.flood(board.edge, open1);
            long both = enclosed0 & enclosed1;
            long gain0 = (enclosed0 & ~both) | inLargerRegion(board, both, open0, open1);
            long gain1 = (enclosed1 & ~both) | inLargerRegion(board, both, open1, open0);
            captured0 += Long.bitCount(gain0 & sets[STONE + 1]);
            captured1 += Long.bitCount(gain1 & sets[STONE]);
            turn(gain0, AREA);
            turn(gain1, AREA + 1);
            return gain0 | gain1;
        }

        private static long inLargerRegion(Board board, long candidates, long mine, long theirs) {
            long found = 0;
            for (int cell = 0; candidates != 0 && cell < board.size; cell++) {
                long seed = candidates & (1L << cell);
                if (Long.bitCount(board.flood(seed, mine)) > Long.bitCount(board.flood(seed, theirs))) {
                    found |= seed;
                }
            }
            return found;
        }

        /** The least number of stones that enclose a cell, or one more than the greatest that is looked for. */
        int stonesAround(Board board, int player, int cell) {
            long seed = 1L << cell;
            long open = open(board, player);
            long places = sets[EMPTY] & ~seed;
            if (board.isInside(seed, open)) {
                return 0;
            }
            if (oneStoneEncloses(board, seed, open, places)) {
                return 1;
            }
            for (int place = 0; place < board.size; place++) {
                long stone = places & (1L << place);
                places &= ~stone;
                if (stone != 0 && oneStoneEncloses(board, seed, open & ~stone, places)) {
                    return 2;
                }
            }
            return MAX_STONES_AROUND + 1;
        }

        private static boolean oneStoneEncloses(Board board, long seed, long open, long places) {
            for (int place = 0; place < board.size; place++) {
                long stone = places & (1L << place);
                if (stone != 0 && board.isInside(seed, open & ~stone)) {
                    return true;
                }
            }
            return false;
        }
    }

    /** A round that was played or looked at, with what it changed and the position after it. */
    private static final class Round {
        int first;
        int second;
        int score0;
        int score1;
        final Position after = new Position();
        private long placed;
        private final long[] waves = new long[MAX_WAVES];

        void copyFrom(Round other) {
            first = other.first;
            second = other.second;
            score0 = other.score0;
            score1 = other.score1;
            placed = other.placed;
            System.arraycopy(other.waves, 0, waves, 0, MAX_WAVES);
            after.copyFrom(other.after);
        }

        void make(Board board, Position before, int choice0, int choice1, int stateAfterClash) {
            first = choice0;
            second = choice1;
            after.copyFrom(before);
            if (first == second) {
                placed = after.give(first, stateAfterClash);
            } else {
                placed = after.give(first, STONE) | after.give(second, STONE + 1);
            }
            boolean goesOn = true;
            for (int wave = 0; wave < MAX_WAVES; wave++) {
                waves[wave] = goesOn ? after.capture(board) : 0;
                goesOn = waves[wave] != 0;
            }
        }

        int choice(int player) {
            return player == 0 ? first : second;
        }

        boolean isClash() {
            return first == second && first != PASS;
        }

        /** Whether the game is over if this is its latest round, of so many. */
        boolean ends(int played) {
            boolean bothPassed = first == PASS && second == PASS;
            return bothPassed || after.in(EMPTY) == 0 || played >= MAX_ROUNDS;
        }

        int waves() {
            int changing = 0;
            for (int wave = 0; wave < MAX_WAVES; wave++) {
                changing += waves[wave] == 0 ? 0 : 1;
            }
            return changing;
        }

        int changedByWaves() {
            int changed = 0;
            for (int wave = 0; wave < MAX_WAVES; wave++) {
                changed += Long.bitCount(waves[wave]);
            }
            return changed;
        }

        int changedByWave(int wave) {
            return wave >= 0 && wave < MAX_WAVES ? Long.bitCount(waves[wave]) : 0;
        }

        /** The latest wave that changed the cell, or -1. */
        int waveThatChanged(int cell) {
            int found = -1;
            for (int wave = 0; wave < MAX_WAVES; wave++) {
                if ((waves[wave] >>> cell & 1) != 0) {
                    found = wave;
                }
            }
            return found;
        }

        boolean changed(int cell) {
            return (placed >>> cell & 1) != 0 || waveThatChanged(cell) >= 0;
        }

        /** The length of the round's text. */
        int signs() {
            return signsOf(first) + signsOf(second) + 1;
        }

        char sign(Board board, int offset) {
            int inSecond = offset - signsOf(first);
            if (inSecond < 0) {
                return signOf(board, first, offset);
            }
            return inSecond < signsOf(second) ? signOf(board, second, inSecond) : ';';
        }

        private static int signsOf(int choice) {
            return choice == PASS ? 1 : 2;
        }

        private static char signOf(Board board, int choice, int offset) {
            if (choice == PASS) {
                return '-';
            }
            int sign = offset == 0 ? 'a' + board.columnOf(choice) : '1' + board.rowOf(choice);
            return (char) sign;
        }
    }

    /** A game with its rounds, the rule and the bonuses. What is told of its past is found in its rounds alone. */
    private static final class Game {
        Board board = new Board(FIRST_SIDE, FIRST_SIDE);
        int rule = CLASH_BLOCKS;
        int played;
        final Round[] rounds = new Round[MAX_ROUNDS];
        private final Position beginning = new Position();
        private int bonus0;
        private int bonus1;

        Game() {
            for (int round = 0; round < rounds.length; round++) {
                rounds[round] = new Round();
            }
            beginning.clear(board.all);
        }

        void begin(int width, int height, int handicap) {
            if (board.width != width || board.height != height) {
                board = new Board(width, height);
            }
            beginning.clear(board.all);
            for (int stone = 0; stone < handicap; stone++) {
                beginning.give(handicapCell(stone), STONE + 1);
            }
            played = 0;
            bonus0 = 0;
            bonus1 = 0;
        }

        private int handicapCell(int stone) {
            int right = board.width - 2;
            int low = board.height - 2;
            switch (stone) {
                case 0:
                    return board.cellAt(1, 1);
                case 1:
                    return board.cellAt(right, low);
                case 2:
                    return board.cellAt(right, 1);
                default:
                    return board.cellAt(1, low);
            }
        }

        /** The rounds of the other game that were taken back are left out: latest() never comes to them. */
        void copyFrom(Game other) {
            board = other.board;
            rule = other.rule;
            bonus0 = other.bonus0;
            bonus1 = other.bonus1;
            beginning.copyFrom(other.beginning);
            played = other.played;
            for (int round = 0; round < played && round < MAX_ROUNDS; round++) {
                rounds[round].copyFrom(other.rounds[round]);
            }
        }

        int bonus(int player) {
            return player == 0 ? bonus0 : bonus1;
        }

        void changeBonus(int player, int bonus) {
            if (player == 0) {
                bonus0 = bonus;
            } else {
                bonus1 = bonus;
            }
        }

        Position latest() {
            return played > 0 && played <= MAX_ROUNDS ? rounds[played - 1].after : beginning;
        }

        boolean hasEnded() {
            return played > 0 && played <= MAX_ROUNDS && rounds[played - 1].ends(played);
        }

        int score(int player) {
            return latest().points(player) + bonus(player);
        }

        /** How many points player 0 is ahead in a position, with the bonuses as they are now. */
        int lead(Position position) {
            return position.lead() + bonus0 - bonus1;
        }

        int stateAfterClash(Position before) {
            int lead = lead(before);
            if (rule == CLASH_IS_NOTHING) {
                return EMPTY;
            }
            if (rule == CLASH_BLOCKS || lead == 0) {
                return BLOCK;
            }
            return lead < 0 ? STONE : STONE + 1;
        }

        /** Plays a round that the caller has found to be possible; answers the number of cells captured. */
        int addRound(int first, int second) {
            if (played < 0 || played >= MAX_ROUNDS) {
                return 0;
            }
            Round round = rounds[played];
            Position before = latest();
            round.make(board, before, first, second, stateAfterClash(before));
            played++;
            round.score0 = score(0);
            round.score1 = score(1);
            return round.changedByWaves();
        }

        int clashes() {
            int clashes = 0;
            for (int round = 0; round < played && round < MAX_ROUNDS; round++) {
                clashes += rounds[round].isClash() ? 1 : 0;
            }
            return clashes;
        }

        int waves() {
            int waves = 0;
            for (int round = 0; round < played && round < MAX_ROUNDS; round++) {
                waves += rounds[round].waves();
            }
            return waves;
        }

        int passes(int player) {
            int passes = 0;
            for (int round = 0; round < played && round < MAX_ROUNDS; round++) {
                passes += rounds[round].choice(player) == PASS ? 1 : 0;
            }
            return passes;
        }

        /** The latest round that changed the cell, or -1. */
        int roundThatChanged(int cell) {
            int found = -1;
            for (int round = 0; round < played && round < MAX_ROUNDS; round++) {
                if (rounds[round].changed(cell)) {
                    found = round;
                }
            }
            return found;
        }

        /** The wave by which the cell got its state, or -1. */
        int waveThatChanged(int cell) {
            int round = roundThatChanged(cell);
            return round >= 0 && round < MAX_ROUNDS ? rounds[round].waveThatChanged(cell) : -1;
        }

        int roundOfGreatestChange() {
            int found = 0;
            int greatest = -1;
            int before = bonus0 - bonus1;
            for (int round = 0; round < played && round < MAX_ROUNDS; round++) {
                int lead = rounds[round].score0 - rounds[round].score1;
                int change = Math.abs(lead - before);
                if (change > greatest) {
                    greatest = change;
                    found = round;
                }
                before = lead;
            }
            return found;
        }
    }

    /** Looks at all replies in rounds of its own, so that the game stays as it is. */
    private static final class Foresight {
        private final Round next = new Round();
        private final Round last = new Round();

        /** The guarantee of a choice; it and greatestValue call one another until the depth is used up. */
        private int leastValue(Game game, Position position, int player, int choice, int depth) {
            Round round = depth > 1 ? next : last;
            int stateAfterClash = game.stateAfterClash(position);
            int least = BEYOND_SCORES;
            for (int reply = PASS; reply < game.board.size; reply++) {
                if (position.admits(reply)) {
                    int first = player == 0 ? choice : reply;
                    int second = player == 0 ? reply : choice;
                    round.make(game.board, position, first, second, stateAfterClash);
                    boolean isLast = depth <= 1 || round.ends(game.played + 1);
                    int lead = game.lead(round.after);
                    int outcome = player == 0 ? lead : -lead;
                    least = Math.min(least, isLast ? outcome : greatestValue(game, round.after, player, depth - 1));
                }
            }
            return least;
        }

        private int greatestValue(Game game, Position position, int player, int depth) {
            int greatest = -BEYOND_SCORES;
            for (int choice = PASS; choice < game.board.size; choice++) {
                if (position.admits(choice)) {
                    greatest = Math.max(greatest, leastValue(game, position, player, choice, depth));
                }
            }
            return greatest;
        }
    }

    /** The report: why a round was refused, told level by level. */
    private static final class Refusal {
        int height;
        final int[] codes = new int[MAX_LEVELS];
        final int[] details = new int[MAX_LEVELS];

        void tell(Game game, int code, int cell) {
            height = 0;
            add(1, game.played);
            add(code, cell);
            int round = game.roundThatChanged(cell);
            add(10 + game.latest().stateOf(cell), round);
            int wave = game.waveThatChanged(cell);
            if (wave >= 0 && round >= 0 && round < MAX_ROUNDS) {
                add(20 + wave, game.rounds[round].changedByWave(wave));
            }
        }

        private void add(int code, int detail) {
            if (height >= 0 && height < MAX_LEVELS) {
                codes[height] = code;
                details[height] = detail;
                height++;
            }
        }
    }

    /** The input buffer, and the choices that were found in it when it was read last. */
    private static final class Input {
        int length;
        int choicesRead;
        private final char[] signs = new char[MAX_SIGNS];
        private final int[] choices = new int[MAX_SIGNS];

        boolean append(char sign) {
            if (length < 0 || length >= MAX_SIGNS) {
                return false;
            }
            signs[length] = sign;
            length++;
            return true;
        }

        int choice(int i) {
            return i >= 0 && i < MAX_SIGNS ? choices[i] : PASS;
        }

        /** Finds the choices; answers the error position or NO_ERROR. */
        int parse(Board board) {
            choicesRead = 0;
            int choicesInRound = 0;
            int column = 0;
            boolean needsDigit = false;
            for (int at = 0; at < length && at < MAX_SIGNS; at++) {
                char sign = signs[at];
                if (needsDigit) {
                    int row = sign - '1';
                    if (row < 0 || row >= board.height) {
                        return at;
                    }
                    addChoice(board.cellAt(column, row));
                    choicesInRound++;
                    needsDigit = false;
                } else if (choicesInRound == 2) {
                    if (sign != ';') {
                        return at;
                    }
                    choicesInRound = 0;
                } else if (sign == '-') {
                    addChoice(PASS);
                    choicesInRound++;
                } else {
                    column = sign - 'a';
                    if (column < 0 || column >= board.width) {
                        return at;
                    }
                    needsDigit = true;
                }
            }
            return choicesInRound == 0 && !needsDigit ? NO_ERROR : length;
        }

        private void addChoice(int choice) {
            if (choicesRead >= 0 && choicesRead < MAX_SIGNS) {
                choices[choicesRead] = choice;
                choicesRead++;
            }
        }
    }
}
