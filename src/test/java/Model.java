import java.util.ArrayDeque;
import java.util.ArrayList;
import java.util.Arrays;
import java.util.HashSet;
import java.util.List;
import java.util.NoSuchElementException;
import java.util.Set;
import java.util.TreeSet;

/**
 * A second reading of the document, as slow and as literal as it can be, to compare answers with: a grid of states,
 * searches from cell to cell, and a whole copy of everything for every round.
 */
final class Model {
    static final class State {
        int width = 5;
        int height = 5;
        int[] cells = new int[25];
        int[] round = new int[25];
        int[] wave = new int[25];
        int[] size = new int[25];
        int[] captured = new int[2];
        int[] passes = new int[2];
        int clashes;
        int waves;
        boolean bothPassed;
        List<int[]> rounds = new ArrayList<>();

        State copy() {
            State s = new State();
            s.width = width;
            s.height = height;
            s.cells = cells.clone();
            s.round = round.clone();
            s.wave = wave.clone();
            s.size = size.clone();
            s.captured = captured.clone();
            s.passes = passes.clone();
            s.clashes = clashes;
            s.waves = waves;
            s.bothPassed = bothPassed;
            s.rounds = new ArrayList<>(rounds);
            return s;
        }
    }

    private State now = new State();
    private List<State> past = new ArrayList<>();
    private int rule;
    private int[] bonus = new int[2];
    private State savedNow;
    private List<State> savedPast;
    private int savedRule;
    private int[] savedBonus;
    private List<int[]> report = new ArrayList<>();
    private StringBuilder buffer = new StringBuilder();

    Model() {
        Arrays.fill(now.round, -1);
        Arrays.fill(now.wave, -1);
    }

    int start(int width, int height, int handicap) {
        if (width < 4 || width > 7 || height < 4 || height > 7 || handicap < 0 || handicap > 4) {
            throw new IllegalArgumentException();
        }
        State s = new State();
        s.width = width;
        s.height = height;
        int n = width * height;
        s.cells = new int[n];
        s.round = new int[n];
        s.wave = new int[n];
        s.size = new int[n];
        Arrays.fill(s.round, -1);
        Arrays.fill(s.wave, -1);
        int[] places = {width + 1, (height - 2) * width + width - 2, width + width - 2, (height - 2) * width + 1};
        for (int i = 0; i < handicap; i++) {
            s.cells[places[i]] = 2;
        }
        now = s;
        past = new ArrayList<>();
        bonus = new int[2];
        return number(now, 0);
    }

    int setRule(int newRule) {
        if (newRule < 0 || newRule > 2) {
            throw new IllegalArgumentException();
        }
        int old = rule;
        rule = newRule;
        return old;
    }

    int setBonus(int player, int newBonus) {
        needPlayer(player);
        if (newBonus < 0 || newBonus > 20) {
            throw new IllegalArgumentException();
        }
        int old = bonus[player];
        bonus[player] = newBonus;
        return old;
    }

    int play(int first, int second) {
        needChoice(first);
        needChoice(second);
        if (isOver()) {
            throw new IllegalStateException();
        }
        boolean firstWrong = first >= 0 && now.cells[first] != 0;
        boolean secondWrong = second >= 0 && now.cells[second] != 0;
        if (firstWrong || secondWrong) {
            int cell = firstWrong ? first : second;
            report = new ArrayList<>();
            report.add(new int[] {1, now.rounds.size()});
            report.add(new int[] {firstWrong ? 2 : 3, cell});
            report.add(new int[] {10 + now.cells[cell], now.round[cell]});
            if (now.wave[cell] >= 0) {
                report.add(new int[] {20 + now.wave[cell], now.size[cell]});
            }
            throw new UnsupportedOperationException();
        }
        past.add(now);
        now = after(now, first, second);
        return now.rounds.get(now.rounds.size() - 1)[4];
    }

    private State after(State before, int first, int second) {
        State s = before.copy();
        int number = s.rounds.size();
        boolean clash = false;
        if (first == second && first >= 0) {
            clash = true;
            int a = score(before, 0);
            int b = score(before, 1);
            if (rule == 0 || rule == 2 && a == b) {
                put(s, first, 5, number, -1, 0);
            } else if (rule == 2) {
                put(s, first, a < b ? 1 : 2, number, -1, 0);
            }
        } else {
            if (first >= 0) {
                put(s, first, 1, number, -1, 0);
            }
            if (second >= 0) {
                put(s, second, 2, number, -1, 0);
            }
        }
        s.passes[0] += first == -1 ? 1 : 0;
        s.passes[1] += second == -1 ? 1 : 0;
        s.bothPassed = first == -1 && second == -1;
        s.clashes += clash ? 1 : 0;
        int changed = 0;
        int waves = 0;
        while (waves < 8) {
            int inWave = wave(s, number, waves);
            if (inWave == 0) {
                break;
            }
            waves++;
            changed += inWave;
        }
        s.waves += waves;
        s.rounds.add(new int[] {first, second, clash ? 1 : 0, waves, changed, score(s, 0), score(s, 1)});
        return s;
    }

    private static int wave(State s, int round, int wave) {
        int[] winner = new int[s.cells.length];
        int count = 0;
        for (int c = 0; c < s.cells.length; c++) {
            winner[c] = -1;
            int a = enclosedSize(s, 0, c);
            int b = enclosedSize(s, 1, c);
            if (a > b) {
                winner[c] = 0;
                count++;
            } else if (b > a) {
                winner[c] = 1;
                count++;
            }
        }
        for (int c = 0; c < s.cells.length; c++) {
            if (winner[c] >= 0) {
                if (s.cells[c] == 2 - winner[c]) {
                    s.captured[winner[c]]++;
                }
                put(s, c, 3 + winner[c], round, wave, count);
            }
        }
        return count;
    }

    /** The size of the enclosed region that contains the cell, 0 if there is none. */
    private static int enclosedSize(State s, int player, int cell) {
        Set<Integer> region = regionOf(s, player, cell);
        for (int c : region) {
            int column = c % s.width;
            int row = c / s.width;
            if (column == 0 || row == 0 || column == s.width - 1 || row == s.height - 1) {
                return 0;
            }
        }
        return region.size();
    }

    private static boolean isOpen(State s, int player, int cell) {
        int state = s.cells[cell];
        return state != 5 && state != 1 + player && state != 3 + player;
    }

    private static Set<Integer> regionOf(State s, int player, int cell) {
        boolean[] wanted = new boolean[s.cells.length];
        for (int c = 0; c < wanted.length; c++) {
            wanted[c] = isOpen(s, player, c);
        }
        return connected(s, wanted, cell);
    }

    private static Set<Integer> connected(State s, boolean[] wanted, int cell) {
        Set<Integer> found = new HashSet<>();
        ArrayDeque<Integer> queue = new ArrayDeque<>();
        if (wanted[cell]) {
            found.add(cell);
            queue.add(cell);
        }
        while (!queue.isEmpty()) {
            int c = queue.remove();
            int[][] steps = {{-1, 0}, {1, 0}, {0, -1}, {0, 1}};
            for (int[] step : steps) {
                int column = c % s.width + step[0];
                int row = c / s.width + step[1];
                if (column >= 0 && column < s.width && row >= 0 && row < s.height) {
                    int next = row * s.width + column;
                    if (wanted[next] && found.add(next)) {
                        queue.add(next);
                    }
                }
            }
        }
        return found;
    }

    private static void put(State s, int cell, int state, int round, int wave, int size) {
        s.cells[cell] = state;
        s.round[cell] = round;
        s.wave[cell] = wave;
        s.size[cell] = size;
    }

    int undo() {
        if (past.isEmpty()) {
            throw new IllegalStateException();
        }
        now = past.remove(past.size() - 1);
        return now.rounds.size();
    }

    boolean isOver() {
        return isOver(now);
    }

    private static boolean isOver(State s) {
        return s.bothPassed || number(s, 0) == 0 || s.rounds.size() >= 60;
    }

    int cell(int column, int row) {
        if (column < 0 || column >= now.width || row < 0 || row >= now.height) {
            throw new IndexOutOfBoundsException();
        }
        return now.cells[row * now.width + column];
    }

    int since(int cell, int what) {
        needCell(cell);
        needRange(what, 2);
        return what == 0 ? now.round[cell] : now.wave[cell];
    }

    int count(int what) {
        needRange(what, 7);
        int[] counts = {
            now.rounds.size(), now.width, now.height, number(now, 0), number(now, 5), now.clashes, now.waves,
        };
        return counts[what];
    }

    int player(int player, int what) {
        needPlayer(player);
        needRange(what, 8);
        Set<Set<Integer>> regions = new HashSet<>();
        int largest = 0;
        for (int c = 0; c < now.cells.length; c++) {
            if (isOpen(now, player, c)) {
                Set<Integer> region = new TreeSet<>(regionOf(now, player, c));
                regions.add(region);
                largest = Math.max(largest, region.size());
            }
        }
        int[] numbers = {
            score(now, player), number(now, 1 + player), number(now, 3 + player), now.captured[player],
            bonus[player], now.passes[player], regions.size(), largest,
        };
        return numbers[what];
    }

    long region(int player, int cell) {
        needPlayer(player);
        needCell(cell);
        if (!isOpen(now, player, cell)) {
            throw new NoSuchElementException();
        }
        return bits(regionOf(now, player, cell));
    }

    long cells(int state) {
        needRange(state, 6);
        Set<Integer> found = new HashSet<>();
        for (int c = 0; c < now.cells.length; c++) {
            if (now.cells[c] == state) {
                found.add(c);
            }
        }
        return bits(found);
    }

    long chain(int cell) {
        needCell(cell);
        if (now.cells[cell] != 1 && now.cells[cell] != 2) {
            throw new NoSuchElementException();
        }
        boolean[] wanted = new boolean[now.cells.length];
        for (int c = 0; c < wanted.length; c++) {
            wanted[c] = now.cells[c] == now.cells[cell];
        }
        return bits(connected(now, wanted, cell));
    }

    int stonesToEnclose(int player, int cell) {
        needPlayer(player);
        needCell(cell);
        for (int stones = 0; stones <= 2; stones++) {
            if (canEnclose(now.copy(), player, cell, stones)) {
                return stones;
            }
        }
        throw new NoSuchElementException();
    }

    private static boolean canEnclose(State s, int player, int cell, int stones) {
        if (stones == 0) {
            return enclosedSize(s, player, cell) > 0;
        }
        for (int c = 0; c < s.cells.length; c++) {
            if (s.cells[c] == 0) {
                s.cells[c] = 1 + player;
                boolean can = canEnclose(s, player, cell, stones - 1);
                s.cells[c] = 0;
                if (can) {
                    return true;
                }
            }
        }
        return false;
    }

    double share(int player) {
        needPlayer(player);
        return (double) (number(now, 1 + player) + number(now, 3 + player)) / (now.width * now.height);
    }

    int round(int round, int what) {
        if (round < 0 || round >= now.rounds.size()) {
            throw new IndexOutOfBoundsException();
        }
        needRange(what, 7);
        return now.rounds.get(round)[what];
    }

    int turningPoint() {
        if (now.rounds.isEmpty()) {
            throw new NoSuchElementException();
        }
        List<Integer> changes = new ArrayList<>();
        for (int r = 0; r < now.rounds.size(); r++) {
            int[] one = now.rounds.get(r);
            int before = r == 0 ? bonus[0] - bonus[1] : now.rounds.get(r - 1)[5] - now.rounds.get(r - 1)[6];
            changes.add(Math.abs(one[5] - one[6] - before));
        }
        return changes.indexOf(changes.stream().max(Integer::compare).get());
    }

    int guarantee(int player, int choice, int depth) {
        needPlayer(player);
        needChoice(choice);
        needDepth(depth);
        needLookAhead(depth);
        if (choice >= 0 && now.cells[choice] != 0) {
            throw new IllegalStateException();
        }
        return guarantee(now, player, choice, depth);
    }

    private int guarantee(State s, int player, int choice, int depth) {
        int least = Integer.MAX_VALUE;
        for (int reply : choices(s)) {
            State next = player == 0 ? after(s, choice, reply) : after(s, reply, choice);
            int value = score(next, player) - score(next, 1 - player);
            if (depth == 2 && !isOver(next)) {
                value = Integer.MIN_VALUE;
                for (int later : choices(next)) {
                    value = Math.max(value, guarantee(next, player, later, 1));
                }
            }
            least = Math.min(least, value);
        }
        return least;
    }

    private static List<Integer> choices(State s) {
        List<Integer> list = new ArrayList<>();
        for (int c = 0; c < s.cells.length; c++) {
            if (s.cells[c] == 0) {
                list.add(c);
            }
        }
        list.add(-1);
        return list;
    }

    int best(int player, int depth) {
        needPlayer(player);
        needDepth(depth);
        needLookAhead(depth);
        int best = -1;
        int greatest = Integer.MIN_VALUE;
        for (int choice : choices(now)) {
            int value = guarantee(now, player, choice, depth);
            if (value > greatest) {
                greatest = value;
                best = choice;
            }
        }
        return best;
    }

    int levels() {
        return report.size();
    }

    int report(int level, int what) {
        if (level < 0 || level >= report.size()) {
            throw new NoSuchElementException();
        }
        needRange(what, 2);
        return report.get(level)[what];
    }

    int feed(char letter) {
        if (buffer.length() == 80) {
            throw new IllegalStateException();
        }
        buffer.append(letter);
        return buffer.length();
    }

    int readRecord() {
        String text = buffer.toString();
        buffer = new StringBuilder();
        char lastColumn = (char) ('a' + now.width - 1);
        char lastRow = (char) ('0' + now.height);
        String choice = "(?:-|[a-" + lastColumn + "][1-" + lastRow + "])";
        java.util.regex.Pattern pattern = java.util.regex.Pattern.compile("(?:" + choice + choice + ";)*");
        if (!pattern.matcher(text).matches()) {
            int good = 0;
            for (int length = 1; length <= text.length(); length++) {
                java.util.regex.Matcher matcher = pattern.matcher(text.substring(0, length));
                if (matcher.matches() || matcher.hitEnd()) {
                    good = length;
                }
            }
            return -100 - good;
        }
        int rounds = 0;
        int at = 0;
        while (at < text.length()) {
            int[] both = new int[2];
            for (int p = 0; p < 2; p++) {
                if (text.charAt(at) == '-') {
                    both[p] = -1;
                    at++;
                } else {
                    both[p] = text.charAt(at) - 'a' + (text.charAt(at + 1) - '1') * now.width;
                    at += 2;
                }
            }
            at++;
            rounds++;
            try {
                play(both[0], both[1]);
            } catch (IllegalStateException e) {
                throw new UnsupportedOperationException();
            }
        }
        return rounds;
    }

    char written(int i) {
        String text = record();
        if (i < 0 || i >= text.length()) {
            throw new IndexOutOfBoundsException();
        }
        return text.charAt(i);
    }

    private String record() {
        StringBuilder text = new StringBuilder();
        for (int[] one : now.rounds) {
            for (int p = 0; p < 2; p++) {
                text.append(one[p] == -1 ? "-"
                        : "" + (char) ('a' + one[p] % now.width) + (char) ('1' + one[p] / now.width));
            }
            text.append(';');
        }
        return text.toString();
    }

    int save() {
        savedNow = now;
        savedPast = new ArrayList<>(past);
        savedRule = rule;
        savedBonus = bonus.clone();
        return now.rounds.size();
    }

    int restore() {
        if (savedNow == null) {
            throw new IllegalStateException();
        }
        now = savedNow;
        past = new ArrayList<>(savedPast);
        rule = savedRule;
        bonus = savedBonus.clone();
        return now.rounds.size();
    }

    private int score(State s, int player) {
        return number(s, 3 + player) + 2 * s.captured[player] + bonus[player];
    }

    private static int number(State s, int state) {
        int number = 0;
        for (int c : s.cells) {
            number += c == state ? 1 : 0;
        }
        return number;
    }

    private static long bits(Set<Integer> cells) {
        long bits = 0;
        for (int c : cells) {
            bits |= 1L << c;
        }
        return bits;
    }

    private void needPlayer(int player) {
        if (player != 0 && player != 1) {
            throw new IndexOutOfBoundsException();
        }
    }

    private void needCell(int cell) {
        if (cell < 0 || cell >= now.cells.length) {
            throw new IndexOutOfBoundsException();
        }
    }

    private void needChoice(int choice) {
        if (choice != -1) {
            needCell(choice);
        }
    }

    private void needRange(int what, int end) {
        if (what < 0 || what >= end) {
            throw new IllegalArgumentException();
        }
    }

    private void needDepth(int depth) {
        if (depth != 1 && depth != 2) {
            throw new IllegalArgumentException();
        }
    }

    private void needLookAhead(int depth) {
        if (isOver() || depth == 2 && number(now, 0) > 6) {
            throw new IllegalStateException();
        }
    }
}
