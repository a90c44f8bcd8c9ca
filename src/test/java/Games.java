import java.util.List;
import java.util.function.IntUnaryOperator;

/**
 * What the tests share: games to begin with, and answers that are due together. Cells have names
 * here as in the document's texts, "a1" to "f6"; a piece is told as "0 crown c1 4".
 */
abstract class Games {
    static final int INVALID = -1;
    static final int IMPOSSIBLE = -2;
    static final int LIMIT = -3;
    static final int MISSING = -4;
    static final int CROWN = 0;
    static final int ROLLER = 1;
    static final int SLIDER = 2;
    static final int HOPPER = 3;
    static final int WALKER = 4;
    static final int CELLS = 36;
    static final int[] WRONG_CELLS = {-1, 36, Integer.MIN_VALUE, Integer.MAX_VALUE};
    static final int[] WRONG_SIDES = {-1, 2, Integer.MIN_VALUE, Integer.MAX_VALUE};
    static final List<String> KINDS = List.of("crown", "roller", "slider", "hopper", "walker");

    static void due(String call, long got, long want) {
        Check.due(call, got, want);
    }

    // ---- games to begin with

    static int at(String name) {
        return 6 * (name.charAt(1) - '1') + name.charAt(0) - 'a';
    }

    static String name(int cell) {
        return "" + (char) ('a' + cell % 6) + (char) ('1' + cell / 6);
    }

    /** The move from a1 to b2, as "a1b2", in the form that listed() tells. */
    static int told(String move) {
        return CELLS * at(move.substring(0, 2)) + at(move.substring(2));
    }

    static int move(ClockworkChess x, String move) {
        return x.move(at(move.substring(0, 2)), at(move.substring(2)));
    }

    static int refusal(ClockworkChess x, String move) {
        return x.refusal(at(move.substring(0, 2)), at(move.substring(2)));
    }

    static void put(ClockworkChess x, String... pieces) {
        for (String piece : pieces) {
            String[] words = piece.split(" ");
            int answer = x.put(at(words[2]), Integer.parseInt(words[0]), KINDS.indexOf(words[1]),
                Integer.parseInt(words[3]));
            Check.holds("put " + piece, answer >= 0);
        }
    }

    static void empty(ClockworkChess x, String cell) {
        due("empty " + cell, x.put(at(cell), -1, 0, 0), 1);
    }

    /** A game with these pieces alone; its history is full. */
    static ClockworkChess bare(String... pieces) {
        ClockworkChess x = new ClockworkChess();
        clear(x);
        put(x, pieces);
        return x;
    }

    static void clear(ClockworkChess x) {
        for (int cell = 0; cell < CELLS; cell++) {
            x.put(cell, -1, 0, 0);
        }
    }

    /** A game that is over by two passes, with a history that is full. */
    static ClockworkChess over(String... pieces) {
        ClockworkChess x = bare(pieces);
        due("first pass", x.pass(), 0);
        due("second pass", x.pass(), 1);
        return x;
    }

    /** A game with these pieces and two crowns, of which the side 0 has taken one, on b6. */
    static ClockworkChess crownTaken(String... pieces) {
        ClockworkChess x = bare("0 crown a6 1", "1 crown b6 0");
        put(x, pieces);
        due("a crown is taken", move(x, "a6b6"), 1);
        due("over", x.count(1), 1);
        return x;
    }

    static void write(ClockworkChess x, String text) {
        x.clearText();
        for (int at = 0; at < text.length(); at++) {
            due("type in " + text, x.type(text.charAt(at)), at + 1);
        }
    }

    // ---- answers that are due together

    /** The call is refused on both sides of its range, near to it and far away. */
    static void dueRange(String call, IntUnaryOperator x, int least, int greatest) {
        int[] wrong = {least - 1, greatest + 1, least - 256, greatest + 256, Integer.MIN_VALUE,
            Integer.MAX_VALUE};
        for (int number : wrong) {
            due(call + " with " + number, x.applyAsInt(number), INVALID);
        }
        for (int number : new int[] {least, greatest}) {
            Check.holds(call + " is in range with " + number, x.applyAsInt(number) != INVALID);
        }
    }

    static void dueFault(ClockworkChess x, String text, int position, int reason) {
        write(x, text);
        due("fault(0) of " + text, x.fault(0), position);
        due("fault(1) of " + text, x.fault(1), reason);
        due("play() of " + text, x.play(), IMPOSSIBLE);
    }

    static void dueNoFault(ClockworkChess x, String text) {
        write(x, text);
        due("fault(0) of " + text, x.fault(0), MISSING);
        due("fault(1) of " + text, x.fault(1), MISSING);
    }

    static void dueCell(ClockworkChess x, int cell, int side, int kind, int spring) {
        due("side on " + cell, x.cell(cell, 0), side);
        due("kind on " + cell, x.cell(cell, 1), kind);
        due("spring on " + cell, x.cell(cell, 2), spring);
    }

    static void duePiece(ClockworkChess x, String piece) {
        String[] words = piece.split(" ");
        dueCell(x, at(words[2]), Integer.parseInt(words[0]), KINDS.indexOf(words[1]),
            Integer.parseInt(words[3]));
    }

    static void dueSpring(ClockworkChess x, String cell, int spring) {
        due("spring on " + cell, x.cell(at(cell), 2), spring);
    }

    static void dueEmpty(ClockworkChess x, String cell) {
        due("side on " + cell, x.cell(at(cell), 0), MISSING);
    }

    static void dueAccounts(ClockworkChess x, int... wanted) {
        for (int i = 0; i < wanted.length; i++) {
            due("account " + i, x.count(20 + i), wanted[i]);
        }
        dueBalance(x);
    }

    static void dueBalance(ClockworkChess x) {
        due("balance", x.count(20) + x.count(21) + x.count(22) + x.count(26),
            x.count(23) + x.count(24) + x.count(25));
        due("springs of both", x.count(25), x.count(6) + x.count(7));
    }

    static void dueList(ClockworkChess x, int side, int... wanted) {
        due("moves(" + side + ")", x.moves(side), wanted.length);
        for (int i = 0; i < wanted.length; i++) {
            due("listed(" + side + ", " + i + ")", x.listed(side, i), wanted[i]);
        }
        due("listed behind the last", x.listed(side, wanted.length), MISSING);
    }

    static void dueSetUp(ClockworkChess x, int spring) {
        dueBoardSetUp(x, spring);
        due("pieces", x.count(4), 24);
        due("towers", x.count(5), 6);
        due("mover", x.count(0), 0);
        due("ending", x.count(1), 0);
        due("winner", x.count(2), MISSING);
        due("made", x.count(3), 0);
        dueAccounts(x, 24 * spring, 0, 0, 0, 0, 24 * spring, 0);
    }

    static void dueBoardSetUp(ClockworkChess x, int spring) {
        int[] first = {ROLLER, HOPPER, CROWN, SLIDER, HOPPER, ROLLER};
        for (int column = 0; column < 6; column++) {
            dueCell(x, column, 0, first[column], spring);
            dueCell(x, 6 + column, 0, WALKER, spring);
            due("nothing on row 2", x.cell(12 + column, 0), MISSING);
            due("nothing on row 3", x.cell(18 + column, 0), MISSING);
            dueCell(x, 24 + column, 1, WALKER, spring);
            dueCell(x, 30 + column, 1, first[column], spring);
        }
        dueTowers(x, List.of(0, 5, 14, 21, 30, 35));
    }

    static void dueTowers(ClockworkChess x, List<Integer> towers) {
        for (int cell = 0; cell < CELLS; cell++) {
            due("tower on " + cell, x.cell(cell, 3), towers.contains(cell) ? 1 : 0);
        }
    }

    /** Where a piece goes, as "b2=1 c3=2" with the costs, and nowhere else. */
    static void dueGoes(ClockworkChess x, String from, String ways) {
        int[] wanted = new int[CELLS];
        java.util.Arrays.fill(wanted, MISSING);
        int moves = 0;
        for (String way : ways.split(" ")) {
            if (!way.isEmpty()) {
                wanted[at(way)] = way.charAt(3) - '0';
                moves++;
            }
        }
        String piece = KINDS.get(Math.max(0, Math.min(4, x.cell(at(from), 1))));
        for (int to = 0; to < CELLS; to++) {
            due("cost of the " + piece + " from " + from + " to " + name(to), x.cost(at(from), to),
                wanted[to]);
        }
        due("moves of the " + piece + " from " + from, x.cell(at(from), 4), moves);
    }

    /** The answers of both games are the same, now and behind each undo; takes some 450 of its 512 calls. */
    static void dueSame(String behind, ClockworkChess x, ClockworkChess y) {
        dueSameBoard(behind, x, y);
        for (int what = 0; what <= 1; what++) {
            due(behind + ", then fault(" + what + ")", x.fault(what), y.fault(what));
        }
        for (int back = 0; back < 5 && y.count(8) > 0; back++) {
            due(behind + ", then undo()", x.undo(), y.undo());
            dueSameCounts(behind + ", then undo()", x, y);
        }
        due(behind + ", then undo() of all", x.undo(), IMPOSSIBLE);
    }

    private static void dueSameBoard(String behind, ClockworkChess x, ClockworkChess y) {
        for (int cell = 0; cell < CELLS; cell++) {
            for (int what = 0; what < 4; what += what == 0 ? 1 : 2) {
                due(behind + ", then cell(" + cell + ", " + what + ")", x.cell(cell, what),
                    y.cell(cell, what));
            }
        }
        dueSameCounts(behind, x, y);
    }

    private static void dueSameCounts(String behind, ClockworkChess x, ClockworkChess y) {
        for (int what = 0; what <= 26; what++) {
            if (what <= 12 || what >= 20) {
                due(behind + ", then count(" + what + ")", x.count(what), y.count(what));
            }
        }
        for (int cell = 0; cell < CELLS; cell++) {
            due(behind + ", then cell(" + cell + ", 2)", x.cell(cell, 2), y.cell(cell, 2));
        }
    }
}
