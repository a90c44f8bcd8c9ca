import java.util.Random;

/** The same calls, drawn with fixed seeds, to the class and to the model: all answers agree. */
public final class ModelTest {
    private static final int RUNS = 200;
    private static final int CALLS = 512;

    private final Random random;
    private final ClockworkChess x = new ClockworkChess();
    private final Model m = new Model();
    private int calls;

    private ModelTest(int seed) {
        random = new Random(seed);
    }

    public static void main(String[] args) {
        for (int seed = 0; seed < RUNS; seed++) {
            Check.part("seed " + seed);
            new ModelTest(seed).run(seed % 4);
            new ModelTest(seed).reachAmongWalls();
        }
        Check.finish();
    }

    private void due(String call, int got, int want) {
        calls++;
        Check.due(call, got, want);
    }

    /** The style: 0 a game as it is set up, 1 with puts, 2 on a thin board, 3 weak springs. */
    private void run(int style) {
        if (style >= 2) {
            thin(style == 3);
        }
        while (calls < CALLS - 90) {
            step(style);
        }
        accounts();
    }

    /** Long ways around walls, where moves and springs end at different cells. */
    private void reachAmongWalls() {
        due("set", x.set(0, 12), m.set(0, 12));
        int start = random.nextInt(36);
        int walls = 1 + random.nextInt(5);
        for (int cell = 0; cell < 36; cell++) {
            int side = random.nextInt(10) < walls ? 1 : -1;
            due("put", x.put(cell, side, 4, 0), m.put(cell, side, 4, 0));
        }
        for (int kind = 0; kind < 5; kind++) {
            for (int moves = 1; moves <= 12; moves++) {
                int spring = 4 + random.nextInt(9);
                due("put", x.put(start, 0, kind, spring), m.put(start, 0, kind, spring));
                due("reach(" + start + ", " + moves + ")", x.reach(start, moves), m.reach(start, moves));
            }
        }
    }

    private void thin(boolean weak) {
        if (weak) {
            due("set", x.set(2, 0), m.set(2, 0));
        }
        for (int cell = 0; cell < 36; cell++) {
            int side = random.nextInt(weak ? 12 : 5) > 1 ? -1 : random.nextInt(2);
            int kind = random.nextInt(5);
            int spring = random.nextInt(weak ? 2 : 10);
            due("put", x.put(cell, side, kind, spring), m.put(cell, side, kind, spring));
        }
    }

    private void accounts() {
        for (int what = -1; what <= 27; what++) {
            due("count(" + what + ")", x.count(what), m.count(what));
        }
    }

    private int cellOrWrong() {
        return random.nextInt(40) == 0 ? random.nextInt(60) - 20 : random.nextInt(36);
    }

    private int sideOrWrong() {
        return random.nextInt(20) == 0 ? random.nextInt(8) - 4 : random.nextInt(2);
    }

    private void step(int style) {
        int draw = random.nextInt(100);
        if (draw < 22) {
            goOn();
        } else if (draw < 24 + 6 * (style % 3)) {
            int cell = cellOrWrong();
            int side = random.nextInt(4) - 1 - random.nextInt(20) / 19;
            int kind = random.nextInt(5) + random.nextInt(20) / 19;
            int spring = random.nextInt(11);
            due("put(" + cell + ", " + side + ", " + kind + ", " + spring + ")",
                x.put(cell, side, kind, spring), m.put(cell, side, kind, spring));
        } else if (draw < 40) {
            askCell();
        } else if (draw < 70) {
            ask(draw);
        } else if (draw < 88) {
            texts();
        } else {
            rest(draw);
        }
    }

    private void goOn() {
        int side = m.count(0);
        int all = m.moves(side);
        if (all == 0) {
            due("pass()", x.pass(), m.pass());
            return;
        }
        int best = m.best();
        int move = random.nextInt(3) == 0 && best >= 0 ? best : m.listed(side, random.nextInt(all));
        due("move(" + move / 36 + ", " + move % 36 + ")", x.move(move / 36, move % 36),
            m.move(move / 36, move % 36));
    }

    private void askCell() {
        int cell = cellOrWrong();
        int what = random.nextInt(7) - 1;
        due("cell(" + cell + ", " + what + ")", x.cell(cell, what), m.cell(cell, what));
        int moves = random.nextInt(15) - 1;
        due("reach(" + cell + ", " + moves + ")", x.reach(cell, moves), m.reach(cell, moves));
        int side = sideOrWrong();
        due("struck(" + cell + ", " + side + ")", x.struck(cell, side), m.struck(cell, side));
    }

    private void ask(int draw) {
        int from = cellOrWrong();
        int to = cellOrWrong();
        int side = sideOrWrong();
        int index = random.nextInt(30) - 1;
        switch (draw % 6) {
            case 0:
                due("refusal(" + from + ", " + to + ")", x.refusal(from, to), m.refusal(from, to));
                break;
            case 1:
                due("cost(" + from + ", " + to + ")", x.cost(from, to), m.cost(from, to));
                break;
            case 2:
                due("moves(" + side + ")", x.moves(side), m.moves(side));
                break;
            case 3:
                due("listed(" + side + ", " + index + ")", x.listed(side, index), m.listed(side, index));
                break;
            case 4:
                due("replies()", x.replies(), m.replies());
                break;
            default:
                due("best()", x.best(), m.best());
                break;
        }
    }

    private void rest(int draw) {
        int cell = cellOrWrong();
        int what = random.nextInt(30) - 1;
        switch (draw) {
            case 88:
                if (random.nextInt(4) == 0) {
                    due("setUp()", x.setUp(), m.setUp());
                }
                break;
            case 89:
                int value = random.nextInt(15) - 1;
                int setting = random.nextInt(5) - 1;
                due("set(" + setting + ", " + value + ")", x.set(setting, value), m.set(setting, value));
                break;
            case 90:
                due("tower(" + cell + ")", x.tower(cell), m.tower(cell));
                break;
            case 91:
            case 92:
                due("undo()", x.undo(), m.undo());
                break;
            case 93:
                due("pass()", x.pass(), m.pass());
                break;
            case 94:
                int to = cellOrWrong();
                due("move(" + cell + ", " + to + ")", x.move(cell, to), m.move(cell, to));
                break;
            default:
                due("count(" + what + ")", x.count(what), m.count(what));
                break;
        }
    }

    private void texts() {
        if (random.nextInt(3) == 0) {
            textOfAGame();
        }
        if (random.nextInt(4) == 0) {
            due("clearText()", x.clearText(), m.clearText());
        }
        int all = m.moves(m.count(0));
        if (all > 0 && random.nextInt(3) > 0) {
            int move = m.listed(m.count(0), random.nextInt(all));
            write(name(move / 36) + name(move % 36) + ";");
        } else if (random.nextBoolean()) {
            write(name(random.nextInt(36)) + name(random.nextInt(36)) + ";");
        } else {
            write(random.nextBoolean() ? "-;" : "" + (char) (30 + random.nextInt(99)));
        }
        due("fault(0)", x.fault(0), m.fault(0));
        due("fault(1)", x.fault(1), m.fault(1));
        if (random.nextInt(3) == 0) {
            due("play()", x.play(), m.play());
        }
    }

    /** Makes some moves and takes them back, then writes them: few texts are long by chance. */
    private void textOfAGame() {
        StringBuilder game = new StringBuilder();
        int made = 0;
        for (int most = 1 + random.nextInt(5); made < most && m.count(1) == 0; made++) {
            int side = m.count(0);
            int all = m.moves(side);
            int move = all == 0 ? 0 : m.listed(side, random.nextInt(all));
            game.append(all == 0 ? "-" : name(move / 36) + name(move % 36)).append(';');
            if (all == 0) {
                due("pass()", x.pass(), m.pass());
            } else {
                due("move()", x.move(move / 36, move % 36), m.move(move / 36, move % 36));
            }
        }
        for (int back = 0; back < made; back++) {
            due("undo()", x.undo(), m.undo());
        }
        due("clearText()", x.clearText(), m.clearText());
        write(game.toString());
    }

    private void write(String signs) {
        for (int at = 0; at < signs.length(); at++) {
            due("type(" + (int) signs.charAt(at) + ")", x.type(signs.charAt(at)), m.type(signs.charAt(at)));
        }
    }

    private static String name(int cell) {
        return "" + (char) ('a' + cell % 6) + (char) ('1' + cell / 6);
    }
}
