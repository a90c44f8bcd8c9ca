import java.util.ArrayDeque;
import java.util.ArrayList;
import java.util.Deque;
import java.util.HashSet;
import java.util.List;
import java.util.Set;
import java.util.TreeMap;
import java.util.TreeSet;

/**
 * A second reading of the document, written apart from the class and in another way (pieces as
 * records, lines walked step by step, every position of reach tried), for ModelTest.
 */
final class Model {
    record Piece(int side, int kind, int spring) {
        Piece with(int newSpring) {
            return new Piece(side, kind, newSpring);
        }
    }

    private static final class State {
        TreeMap<Integer, Piece> pieces = new TreeMap<>();
        TreeSet<Integer> towers = new TreeSet<>();
        int[] settings = {9, 1, 2};
        int[] accounts = new int[7];
        int mover;
        int ending;
        int winner = -4;
        int made;
        int passesInARow;

        State copy() {
            State c = new State();
            c.pieces = new TreeMap<>(pieces);
            c.towers = new TreeSet<>(towers);
            c.settings = settings.clone();
            c.accounts = accounts.clone();
            c.mover = mover;
            c.ending = ending;
            c.winner = winner;
            c.made = made;
            c.passesInARow = passesInARow;
            return c;
        }

        int sum(int side) {
            return pieces.values().stream().filter(p -> p.side == side).mapToInt(Piece::spring).sum();
        }

        int sum() {
            return sum(0) + sum(1);
        }
    }

    private State now = new State();
    private final Deque<State> history = new ArrayDeque<>();
    private String text = "";

    Model() {
        arrange();
    }

    private void arrange() {
        State s = new State();
        s.settings = now.settings;
        String row = "rhcshr";
        for (int x = 0; x < 6; x++) {
            int kind = "crshw".indexOf(row.charAt(x));
            int half = s.settings[0] / 2;
            s.pieces.put(x, new Piece(0, kind, half));
            s.pieces.put(6 + x, new Piece(0, 4, half));
            s.pieces.put(24 + x, new Piece(1, 4, half));
            s.pieces.put(30 + x, new Piece(1, kind, half));
        }
        s.towers.addAll(List.of(0, 5, 14, 21, 30, 35));
        s.accounts[0] = s.sum();
        now = s;
    }

    private void change() {
        history.addLast(now.copy());
        if (history.size() > 5) {
            history.removeFirst();
        }
    }

    private static boolean within(int number, int from, int to) {
        return from <= number && number <= to;
    }

    // ---- how pieces go

    /** The cells to which a piece goes from a cell, with the costs, whatever its spring. */
    private static TreeMap<Integer, Integer> ways(TreeMap<Integer, Piece> pieces, int from) {
        TreeMap<Integer, Integer> ways = new TreeMap<>();
        Piece p = pieces.get(from);
        int x = from % 6;
        int y = from / 6;
        int[][] straight = {{1, 0}, {-1, 0}, {0, 1}, {0, -1}};
        int[][] across = {{1, 1}, {-1, 1}, {1, -1}, {-1, -1}};
        switch (p.kind) {
            case 0 -> {
                walk(pieces, ways, p, x, y, straight, 1);
                walk(pieces, ways, p, x, y, across, 1);
            }
            case 1 -> walk(pieces, ways, p, x, y, straight, 5);
            case 2 -> walk(pieces, ways, p, x, y, across, 5);
            case 3 -> {
                int[][] hops = {{1, 2}, {2, 1}, {-1, 2}, {-2, 1}, {1, -2}, {2, -1}, {-1, -2}, {-2, -1}};
                for (int[] hop : hops) {
                    int tx = x + hop[0];
                    int ty = y + hop[1];
                    if (within(tx, 0, 5) && within(ty, 0, 5) && !own(pieces, p, 6 * ty + tx)) {
                        ways.put(6 * ty + tx, 2);
                    }
                }
            }
            default -> {
                int ty = y + (p.side == 0 ? 1 : -1);
                for (int tx = x - 1; tx <= x + 1; tx++) {
                    if (within(tx, 0, 5) && within(ty, 0, 5)) {
                        Piece there = pieces.get(6 * ty + tx);
                        boolean may = tx == x ? there == null : there != null && there.side != p.side;
                        if (may) {
                            ways.put(6 * ty + tx, 1);
                        }
                    }
                }
            }
        }
        return ways;
    }

    private static boolean own(TreeMap<Integer, Piece> pieces, Piece p, int cell) {
        return pieces.containsKey(cell) && pieces.get(cell).side == p.side;
    }

    private static void walk(TreeMap<Integer, Piece> pieces, TreeMap<Integer, Integer> ways, Piece p,
            int x, int y, int[][] directions, int most) {
        for (int[] d : directions) {
            int tx = x + d[0];
            int ty = y + d[1];
            for (int n = 1; n <= most && within(tx, 0, 5) && within(ty, 0, 5); n++) {
                int cell = 6 * ty + tx;
                if (!own(pieces, p, cell)) {
                    ways.put(cell, n);
                }
                if (pieces.containsKey(cell)) {
                    break;
                }
                tx += d[0];
                ty += d[1];
            }
        }
    }

    private static List<Integer> targets(TreeMap<Integer, Piece> pieces, int from) {
        List<Integer> targets = new ArrayList<>();
        ways(pieces, from).forEach((to, price) -> {
            if (price <= pieces.get(from).spring) {
                targets.add(to);
            }
        });
        return targets;
    }

    private static List<Integer> list(State s, int side) {
        List<Integer> list = new ArrayList<>();
        s.pieces.forEach((from, p) -> {
            if (p.side == side) {
                targets(s.pieces, from).forEach(to -> list.add(36 * from + to));
            }
        });
        return list;
    }

    // ---- turns

    private static int reason(State s, int from, int to) {
        Piece p = s.pieces.get(from);
        if (s.ending != 0) {
            return 2;
        } else if (p == null) {
            return 3;
        } else if (p.side != s.mover) {
            return 4;
        } else if (own(s.pieces, p, to)) {
            return 5;
        } else if (!ways(s.pieces, from).containsKey(to)) {
            return 6;
        }
        return p.spring < ways(s.pieces, from).get(to) ? 7 : 0;
    }

    private static int reasonOfPass(State s) {
        return s.ending != 0 ? 2 : list(s, s.mover).isEmpty() ? 0 : 8;
    }

    private static void halfMove(State s, int from, int to) {
        int price = ways(s.pieces, from).get(to);
        Piece p = s.pieces.remove(from);
        Piece taken = s.pieces.remove(to);
        int before = s.sum() + p.spring + (taken == null ? 0 : taken.spring);
        int spring = p.spring - price;
        s.accounts[3] += price;
        if (taken != null) {
            spring = Math.min(s.settings[0], spring + taken.spring / 2 + s.settings[1]);
            s.accounts[2] += s.settings[1];
            s.accounts[4] += before - price + s.settings[1] - (s.sum() + spring);
            if (taken.kind == 0) {
                s.ending = 1;
                s.winner = p.side;
            }
        }
        boolean last = p.kind == 4 && to / 6 == (p.side == 0 ? 5 : 0);
        s.pieces.put(to, new Piece(p.side, last ? 1 : p.kind, spring));
        s.made++;
        s.passesInARow = 0;
    }

    private static void nextTurn(State s) {
        if (s.ending != 0) {
            return;
        }
        s.mover = 1 - s.mover;
        int before = s.sum();
        for (int cell : s.towers) {
            Piece p = s.pieces.get(cell);
            if (p != null && p.side == s.mover) {
                s.pieces.put(cell, p.with(Math.min(s.settings[0], p.spring + s.settings[2])));
            }
        }
        s.accounts[1] += s.sum() - before;
    }

    private static void onePass(State s) {
        s.made++;
        s.passesInARow++;
        if (s.passesInARow == 2) {
            s.ending = 2;
            int more = Integer.compare(s.sum(0), s.sum(1));
            s.winner = more == 0 ? -4 : more > 0 ? 0 : 1;
        }
        nextTurn(s);
    }

    // ---- the calls

    int setUp() {
        change();
        arrange();
        return now.sum();
    }

    int set(int what, int value) {
        if (!within(what, 0, 2) || !within(value, what == 0 ? 1 : 0, what == 0 ? 12 : 5)) {
            return -1;
        }
        change();
        int previous = now.settings[what];
        now.settings = now.settings.clone();
        now.settings[what] = value;
        int before = now.sum();
        now.pieces.replaceAll((cell, p) -> p.with(Math.min(p.spring, now.settings[0])));
        now.accounts[6] += now.sum() - before;
        return previous;
    }

    int put(int cell, int side, int kind, int spring) {
        if (!within(cell, 0, 35) || !within(side, -1, 1) || !within(kind, 0, 4)
                || !within(spring, 0, now.settings[0])) {
            return -1;
        }
        if (now.ending != 0) {
            return -2;
        }
        change();
        int before = now.sum();
        Piece was = now.pieces.remove(cell);
        if (side >= 0) {
            now.pieces.put(cell, new Piece(side, kind, spring));
        }
        now.accounts[6] += now.sum() - before;
        return was == null ? 0 : 1;
    }

    int tower(int cell) {
        if (!within(cell, 0, 35)) {
            return -1;
        }
        if (now.towers.size() == 6 && !now.towers.contains(cell)) {
            return -3;
        }
        change();
        if (!now.towers.remove(cell)) {
            now.towers.add(cell);
        }
        return now.towers.size();
    }

    int cell(int cell, int what) {
        if (!within(cell, 0, 35) || !within(what, 0, 4)) {
            return -1;
        }
        Piece p = now.pieces.get(cell);
        if (what == 3) {
            return now.towers.contains(cell) ? 1 : 0;
        }
        if (p == null) {
            return -4;
        }
        return what == 0 ? p.side : what == 1 ? p.kind : what == 2 ? p.spring
            : targets(now.pieces, cell).size();
    }

    int count(int what) {
        if (within(what, 20, 26)) {
            return what == 25 ? now.sum() : now.accounts[what - 20];
        }
        int[] all = {now.mover, now.ending, now.winner, now.made, now.pieces.size(),
            now.towers.size(), now.sum(0), now.sum(1), history.size(), text.length(),
            now.settings[0], now.settings[1], now.settings[2]};
        return within(what, 0, 12) ? all[what] : -1;
    }

    int undo() {
        if (history.isEmpty()) {
            return -2;
        }
        now = history.removeLast();
        return history.size();
    }

    int move(int from, int to) {
        int reason = refusal(from, to);
        if (reason != 0) {
            return reason == -1 ? -1 : -2;
        }
        change();
        int price = ways(now.pieces, from).get(to);
        halfMove(now, from, to);
        nextTurn(now);
        return price;
    }

    int pass() {
        if (reasonOfPass(now) != 0) {
            return -2;
        }
        change();
        onePass(now);
        return now.ending == 0 ? 0 : 1;
    }

    int refusal(int from, int to) {
        return within(from, 0, 35) && within(to, 0, 35) ? reason(now, from, to) : -1;
    }

    int cost(int from, int to) {
        if (!within(from, 0, 35) || !within(to, 0, 35)) {
            return -1;
        }
        return now.pieces.containsKey(from) ? ways(now.pieces, from).getOrDefault(to, -4) : -4;
    }

    int moves(int side) {
        return within(side, 0, 1) ? list(now, side).size() : -1;
    }

    int listed(int side, int index) {
        if (!within(side, 0, 1) || index < 0) {
            return -1;
        }
        List<Integer> list = list(now, side);
        return index < list.size() ? list.get(index) : -4;
    }

    int struck(int cell, int side) {
        if (!within(cell, 0, 35) || !within(side, 0, 1)) {
            return -1;
        }
        State s = now.copy();
        s.pieces.put(cell, new Piece(1 - side, 0, 0));
        return (int) list(s, side).stream().filter(move -> move % 36 == cell).count();
    }

    int reach(int cell, int moves) {
        if (!within(cell, 0, 35) || !within(moves, 0, 12)) {
            return -1;
        }
        Piece p = now.pieces.get(cell);
        if (p == null) {
            return -4;
        }
        Set<Integer> found = new HashSet<>(List.of(100 * cell + p.spring));
        for (int n = 0; n < moves; n++) {
            Set<Integer> more = new HashSet<>(found);
            for (int place : found) {
                TreeMap<Integer, Piece> pieces = new TreeMap<>(now.pieces);
                pieces.remove(cell);
                pieces.put(place / 100, p.with(place % 100));
                for (int to : targets(pieces, place / 100)) {
                    if (!pieces.containsKey(to)) {
                        more.add(100 * to + place % 100 - ways(pieces, place / 100).get(to));
                    }
                }
            }
            found = more;
        }
        return (int) found.stream().map(place -> place / 100).distinct().count();
    }

    int replies() {
        int games = 0;
        for (int first : now.ending != 0 ? List.<Integer>of() : list(now, now.mover)) {
            State s = now.copy();
            halfMove(s, first / 36, first % 36);
            nextTurn(s);
            int second = s.ending == 0 ? list(s, s.mover).size() : 0;
            games += second == 0 ? 1 : second;
        }
        return games;
    }

    int best() {
        int best = -4;
        int bestBalance = 0;
        boolean bestTakes = false;
        for (int move : now.ending != 0 ? List.<Integer>of() : list(now, now.mover)) {
            State s = now.copy();
            halfMove(s, move / 36, move % 36);
            int balance = s.sum(now.mover) - s.sum(1 - now.mover);
            boolean takes = s.ending == 1;
            boolean better = takes == bestTakes ? balance > bestBalance : takes;
            if (best == -4 || better) {
                best = move;
                bestBalance = balance;
                bestTakes = takes;
            }
        }
        return best;
    }

    int type(int character) {
        if (!within(character, 32, 126)) {
            return -1;
        }
        if (text.length() == 80) {
            return -3;
        }
        text += (char) character;
        return text.length();
    }

    int clearText() {
        int before = text.length();
        text = "";
        return before;
    }

    /** Position and reason of the fault, or null; a state without a fault has made all moves. */
    private int[] scan(State s) {
        int at = 0;
        while (at < text.length()) {
            String rest = text.substring(at);
            int reason;
            if (rest.startsWith("-;")) {
                reason = reasonOfPass(s);
                if (reason == 0) {
                    onePass(s);
                }
            } else if (rest.matches("([a-f][1-6]){2};.*")) {
                int from = 6 * (rest.charAt(1) - '1') + rest.charAt(0) - 'a';
                int to = 6 * (rest.charAt(3) - '1') + rest.charAt(2) - 'a';
                reason = reason(s, from, to);
                if (reason == 0) {
                    halfMove(s, from, to);
                    nextTurn(s);
                }
            } else {
                reason = 1;
            }
            if (reason != 0) {
                return new int[] {at, reason};
            }
            at += rest.indexOf(';') + 1;
        }
        return null;
    }

    int fault(int what) {
        if (!within(what, 0, 1)) {
            return -1;
        }
        int[] found = scan(now.copy());
        return found == null ? -4 : found[what];
    }

    int play() {
        State s = now.copy();
        if (scan(s) != null) {
            return -2;
        }
        change();
        now = s;
        return text.split(";", -1).length - 1;
    }
}
