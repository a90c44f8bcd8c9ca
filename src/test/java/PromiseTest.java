/** One part for each promise of the document: ordinary inputs, edges and wrong inputs. */
public final class PromiseTest extends Games {
    private PromiseTest() {
    }

    public static void main(String[] args) {
        newObject();
        setUp();
        set();
        put();
        tower();
        cell();
        count();
        undo();
        history();
        move();
        taking();
        winding();
        promotion();
        pass();
        winners();
        refusal();
        kinds();
        cost();
        moves();
        listed();
        struck();
        reach();
        replies();
        best();
        type();
        clearText();
        fault();
        faultOfForm();
        play();
        Check.finish();
    }

    // ---- promises

    private static void newObject() {
        Check.part("1 new object");
        ClockworkChess x = new ClockworkChess();
        dueSetUp(x, 4);
        due("history", x.count(8), 0);
        due("text", x.count(9), 0);
        due("limit", x.count(10), 9);
        due("bonus", x.count(11), 1);
        due("winding", x.count(12), 2);
        due("INVALID_ARGUMENT", ClockworkChess.INVALID_ARGUMENT, -1);
        due("NOT_POSSIBLE", ClockworkChess.NOT_POSSIBLE, -2);
        due("LIMIT_REACHED", ClockworkChess.LIMIT_REACHED, -3);
        due("NOT_FOUND", ClockworkChess.NOT_FOUND, -4);
    }

    private static void setUp() {
        Check.part("2 setUp");
        ClockworkChess x = new ClockworkChess();
        x.move(6, 12);
        x.tower(0);
        x.tower(7);
        x.put(20, 0, ROLLER, 3);
        write(x, "a2");
        due("setUp()", x.setUp(), 96);
        dueSetUp(x, 4);
        due("history", x.count(8), 5);
        due("text stays", x.count(9), 2);
        x.set(0, 12);
        x.set(1, 0);
        x.set(2, 5);
        due("setUp() of 12", x.setUp(), 144);
        dueSetUp(x, 6);
        due("limit stays", x.count(10), 12);
        due("bonus stays", x.count(11), 0);
        due("winding stays", x.count(12), 5);
        x.set(0, 1);
        due("setUp() of 1", x.setUp(), 0);
        dueSetUp(x, 0);
        due("setUp() behind the end", over().setUp(), 96);
        x = bare();
        x.put(0, 0, CROWN, 9);
        x.put(1, 1, CROWN, 9);
        x.move(0, 1);
        due("over", x.count(1), 1);
        due("a bonus", x.count(22), 1);
        due("setUp() behind the end", x.setUp(), 96);
        dueSetUp(x, 4);
        x = bare();
        x.pass();
        x.setUp();
        for (int cell = 0; cell < 36; cell++) {
            x.put(cell, -1, 0, 0);
        }
        due("a pass of the game before does not count", x.pass(), 0);
    }

    private static void set() {
        Check.part("3 set");
        ClockworkChess x = new ClockworkChess();
        int[][] wrong = {{0, 0}, {0, 13}, {0, -1}, {1, -1}, {1, 6}, {2, -1}, {2, 6}, {3, 1}, {-1, 1},
            {Integer.MAX_VALUE, 1}, {Integer.MIN_VALUE, 1}, {0, Integer.MAX_VALUE},
            {1, Integer.MIN_VALUE}};
        for (int[] pair : wrong) {
            due("set(" + pair[0] + ", " + pair[1] + ")", x.set(pair[0], pair[1]), INVALID);
        }
        due("nothing recorded", x.count(8), 0);
        due("set(0, 12)", x.set(0, 12), 9);
        due("set(0, 12) again", x.set(0, 12), 12);
        due("both recorded", x.count(8), 2);
        due("set(1, 5)", x.set(1, 5), 1);
        due("set(1, 0)", x.set(1, 0), 5);
        due("set(2, 5)", x.set(2, 5), 2);
        due("set(2, 0)", x.set(2, 0), 5);
        due("limit", x.count(10), 12);
        due("bonus", x.count(11), 0);
        due("winding", x.count(12), 0);
        dueAccounts(x, 96, 0, 0, 0, 0, 96, 0);
        x.put(20, 0, ROLLER, 12);
        x.put(21, 1, ROLLER, 2);
        due("set(0, 3)", x.set(0, 3), 12);
        dueCell(x, 20, 0, ROLLER, 3);
        dueCell(x, 21, 1, ROLLER, 2);
        dueCell(x, 0, 0, ROLLER, 3);
        dueAccounts(x, 96, 0, 0, 0, 0, 77, -19);
        due("set(0, 1)", x.set(0, 1), 3);
        due("one each", x.count(25), 26);
        due("set while over", over().set(0, 5), 9);
    }

    private static void put() {
        Check.part("4 put");
        ClockworkChess x = new ClockworkChess();
        for (int cell : WRONG_CELLS) {
            due("put(" + cell + ")", x.put(cell, 0, 0, 0), INVALID);
        }
        int[][] wrong = {{-2, 0, 0}, {2, 0, 0}, {0, -1, 0}, {0, 5, 0}, {0, 0, -1}, {0, 0, 10},
            {-1, 5, 0}, {-1, -1, 0}, {-1, 0, 10}, {-1, 0, -1}, {Integer.MIN_VALUE, 0, 0}};
        for (int[] row : wrong) {
            due("put(20, ..)", x.put(20, row[0], row[1], row[2]), INVALID);
            due("put(0, ..)", x.put(0, row[0], row[1], row[2]), INVALID);
        }
        due("nothing recorded", x.count(8), 0);
        dueSetUp(x, 4);
        due("put on an empty cell", x.put(20, 1, HOPPER, 9), 0);
        dueCell(x, 20, 1, HOPPER, 9);
        due("pieces", x.count(4), 25);
        dueAccounts(x, 96, 0, 0, 0, 0, 105, 9);
        due("put instead", x.put(20, 0, SLIDER, 2), 1);
        dueCell(x, 20, 0, SLIDER, 2);
        dueAccounts(x, 96, 0, 0, 0, 0, 98, 2);
        due("empty it", x.put(20, -1, 4, 9), 1);
        due("nothing there", x.cell(20, 0), MISSING);
        due("empty it again", x.put(20, -1, 0, 0), 0);
        due("also recorded", x.count(8), 4);
        dueAccounts(x, 96, 0, 0, 0, 0, 96, 0);
        due("a crown away", x.put(2, -1, 0, 0), 1);
        due("the game goes on", x.count(1), 0);
        due("the turn stays", x.count(0), 0);
        due("no move counted", x.count(3), 0);
        x.set(0, 12);
        due("spring 12", x.put(20, 0, CROWN, 12), 0);
        x = over();
        due("while over", x.put(0, 0, 0, 0), IMPOSSIBLE);
        due("to empty while over", x.put(0, -1, 0, 0), IMPOSSIBLE);
        due("out of range while over", x.put(36, 0, 0, 0), INVALID);
        due("too much while over", x.put(0, 0, 0, 10), INVALID);
    }

    private static void tower() {
        Check.part("5 tower");
        ClockworkChess x = new ClockworkChess();
        for (int cell : WRONG_CELLS) {
            due("tower(" + cell + ")", x.tower(cell), INVALID);
        }
        due("tower(1) of 7", x.tower(1), LIMIT);
        due("out of range goes first", x.tower(36), INVALID);
        due("nothing recorded", x.count(8), 0);
        due("tower(0) away", x.tower(0), 5);
        due("no tower", x.cell(0, 3), 0);
        due("tower(35) away", x.tower(35), 4);
        due("tower(1)", x.tower(1), 5);
        due("tower", x.cell(1, 3), 1);
        due("tower(35)", x.tower(35), 6);
        due("tower(2) of 7", x.tower(2), LIMIT);
        due("recorded", x.count(8), 4);
        int[] rest = {1, 5, 14, 21, 30, 35};
        for (int i = 0; i < 6; i++) {
            due("tower away", x.tower(rest[i]), 5 - i);
        }
        due("towers", x.count(5), 0);
        x = over();
        due("tower(0) while over", x.tower(0), 5);
    }

    private static void cell() {
        Check.part("6 cell");
        ClockworkChess x = new ClockworkChess();
        for (int cell : WRONG_CELLS) {
            for (int what = -1; what <= 5; what++) {
                due("cell(" + cell + ")", x.cell(cell, what), INVALID);
            }
        }
        due("cell(0, -1)", x.cell(0, -1), INVALID);
        due("cell(0, 5)", x.cell(0, 5), INVALID);
        due("cell(20, 5)", x.cell(20, 5), INVALID);
        due("cell(20, -1)", x.cell(20, -1), INVALID);
        for (int what = 0; what <= 4; what++) {
            due("cell(14, " + what + ")", x.cell(14, what), what == 3 ? 1 : MISSING);
            due("cell(15, " + what + ")", x.cell(15, what), what == 3 ? 0 : MISSING);
        }
        due("hopper", x.cell(1, 4), 2);
        due("walker", x.cell(6, 4), 1);
        due("roller", x.cell(0, 4), 0);
        due("hopper of the other side", x.cell(31, 4), 2);
        x = bare();
        x.put(14, 1, CROWN, 1);
        due("crown in the middle", x.cell(14, 4), 8);
        x.put(14, 1, ROLLER, 9);
        due("roller in the middle", x.cell(14, 4), 10);
        x.put(14, 1, ROLLER, 1);
        due("roller with 1", x.cell(14, 4), 4);
        x.put(14, 1, SLIDER, 9);
        due("slider in the middle", x.cell(14, 4), 9);
        x.put(14, 1, SLIDER, 0);
        due("slider with 0", x.cell(14, 4), 0);
        x.put(14, 1, HOPPER, 2);
        due("hopper in the middle", x.cell(14, 4), 8);
        x.put(14, 1, HOPPER, 1);
        due("hopper with 1", x.cell(14, 4), 0);
        x.put(14, -1, 0, 0);
        x.pass();
        x.pass();
        x.undo();
        x.undo();
        x.put(14, 0, CROWN, 1);
        x.put(15, 1, CROWN, 1);
        x.move(14, 15);
        due("over", x.count(1), 1);
        due("a crown without spring behind the end", x.cell(15, 4), 8);
    }

    private static void count() {
        Check.part("7 count");
        ClockworkChess x = new ClockworkChess();
        int[] wrong = {-1, 13, 14, 15, 16, 17, 18, 19, 27, 28, Integer.MIN_VALUE, Integer.MAX_VALUE};
        for (int what : wrong) {
            due("count(" + what + ")", x.count(what), INVALID);
        }
        due("nothing recorded", x.count(8), 0);
        x.put(20, 1, ROLLER, 5);
        due("springs of 0", x.count(6), 48);
        due("springs of 1", x.count(7), 53);
        due("pieces", x.count(4), 25);
        x.move(6, 12);
        due("mover", x.count(0), 1);
        due("made", x.count(3), 1);
        due("history", x.count(8), 2);
        write(x, "abc");
        due("text", x.count(9), 3);
        x = over();
        due("ending", x.count(1), 2);
        due("no winner", x.count(2), MISSING);
        due("made", x.count(3), 2);
        due("mover stays", x.count(0), 1);
    }

    private static void undo() {
        Check.part("8 undo");
        ClockworkChess x = new ClockworkChess();
        due("undo() at first", x.undo(), IMPOSSIBLE);
        x.set(0, 12);
        x.set(1, 5);
        x.set(2, 0);
        x.tower(0);
        x.move(6, 12);
        due("history", x.count(8), 5);
        due("undo move", x.undo(), 4);
        dueCell(x, 6, 0, WALKER, 4);
        due("cell 12", x.cell(12, 0), MISSING);
        due("mover", x.count(0), 0);
        due("made", x.count(3), 0);
        due("spent", x.count(23), 0);
        due("undo tower", x.undo(), 3);
        due("tower", x.cell(0, 3), 1);
        due("undo set", x.undo(), 2);
        due("winding", x.count(12), 2);
        due("undo set", x.undo(), 1);
        due("bonus", x.count(11), 1);
        due("undo set", x.undo(), 0);
        due("limit", x.count(10), 9);
        due("undo() at last", x.undo(), IMPOSSIBLE);
        dueSetUp(x, 4);
        x.put(0, -1, 0, 0);
        write(x, "xyz");
        due("undo put", x.undo(), 0);
        due("text stays", x.count(9), 3);
        dueSetUp(x, 4);
        x = bare();
        x.put(0, 0, CROWN, 9);
        x.put(1, 1, CROWN, 9);
        x.move(0, 1);
        due("over", x.count(1), 1);
        due("winner", x.count(2), 0);
        x.setUp();
        due("undo setUp", x.undo(), 4);
        due("over again", x.count(1), 1);
        due("winner again", x.count(2), 0);
        due("account 6 again", x.count(26), 18 - 96);
        x.set(0, 12);
        x.setUp();
        due("account 0", x.count(20), 144);
        x.undo();
        due("account 0 again", x.count(20), 96);
        due("undo set", x.undo(), 3);
        due("undo the end", x.undo(), 2);
        due("goes on", x.count(1), 0);
        due("no winner", x.count(2), MISSING);
        due("account 2 again", x.count(22), 0);
        due("account 4 again", x.count(24), 0);
    }

    private static void history() {
        Check.part("history");
        ClockworkChess x = new ClockworkChess();
        for (int i = 1; i <= 8; i++) {
            x.put(14, 0, ROLLER, i);
            due("history", x.count(8), Math.min(i, 5));
        }
        for (int i = 7; i >= 3; i--) {
            due("undo", x.undo(), i - 3);
            due("spring", x.cell(14, 2), i);
        }
        due("the older ones are dropped", x.undo(), IMPOSSIBLE);
        due("spring", x.cell(14, 2), 3);
        x.put(14, 0, ROLLER, 9);
        due("undo", x.undo(), 0);
        due("spring", x.cell(14, 2), 3);
        int before = x.count(8);
        x.put(14, 0, ROLLER, 10);
        x.move(0, 0);
        x.pass();
        x.tower(1);
        x.set(0, 0);
        write(x, "zz;");
        x.play();
        x.clearText();
        x.refusal(6, 12);
        x.best();
        x.replies();
        x.struck(14, 0);
        x.reach(0, 12);
        due("refused calls and questions are no changes", x.count(8), before);
    }

    private static void move() {
        Check.part("9 move");
        ClockworkChess x = new ClockworkChess();
        for (int wrong : WRONG_CELLS) {
            due("move(" + wrong + ", 12)", x.move(wrong, 12), INVALID);
            due("move(6, " + wrong + ")", x.move(6, wrong), INVALID);
        }
        due("refused 3", x.move(14, 20), IMPOSSIBLE);
        due("refused 4", x.move(24, 18), IMPOSSIBLE);
        due("refused 5", x.move(0, 1), IMPOSSIBLE);
        due("refused 6", x.move(6, 18), IMPOSSIBLE);
        dueSetUp(x, 4);
        due("move(1, 12)", x.move(1, 12), 2);
        dueCell(x, 12, 0, HOPPER, 2);
        due("left", x.cell(1, 0), MISSING);
        due("mover", x.count(0), 1);
        due("made", x.count(3), 1);
        dueAccounts(x, 96, 4, 0, 2, 0, 98, 0);
        due("not its turn", x.move(6, 18), IMPOSSIBLE);
        due("move(26, 20)", x.move(26, 20), 1);
        dueCell(x, 20, 1, WALKER, 3);
        dueAccounts(x, 96, 8, 0, 3, 0, 101, 0);
        x = bare();
        x.put(0, 0, ROLLER, 4);
        due("too weak", x.move(0, 30), IMPOSSIBLE);
        due("just enough", x.move(0, 24), 4);
        dueCell(x, 24, 0, ROLLER, 0);
    }

    private static void taking() {
        Check.part("taking");
        ClockworkChess x = bare();
        x.put(12, 0, ROLLER, 5);
        x.put(15, 1, SLIDER, 7);
        due("move", x.move(12, 15), 3);
        dueCell(x, 15, 0, ROLLER, 6);
        dueAccounts(x, 96, 0, 1, 3, 4, 6, 12 - 96);
        x = bare();
        x.set(1, 5);
        x.put(12, 0, ROLLER, 9);
        x.put(13, 1, SLIDER, 9);
        due("move", x.move(12, 13), 1);
        dueCell(x, 13, 0, ROLLER, 9);
        dueAccounts(x, 96, 0, 5, 1, 13, 9, 18 - 96);
        x = bare();
        x.set(1, 0);
        x.put(12, 0, WALKER, 1);
        x.put(19, 1, CROWN, 1);
        x.put(35, 1, CROWN, 3);
        due("takes one of two crowns", x.move(12, 19), 1);
        dueCell(x, 19, 0, WALKER, 0);
        dueAccounts(x, 96, 0, 0, 1, 1, 3, 5 - 96);
        due("over", x.count(1), 1);
        due("winner", x.count(2), 0);
        due("mover stays", x.count(0), 0);
        due("no turn began", x.cell(35, 2), 3);
        due("made", x.count(3), 1);
        due("no move behind the end", x.move(19, 25), IMPOSSIBLE);
        due("no pass behind the end", x.pass(), IMPOSSIBLE);
        x = bare();
        x.put(7, 1, CROWN, 1);
        x.put(1, 0, CROWN, 0);
        due("pass", x.pass(), 0);
        due("takes", x.move(7, 1), 1);
        due("over", x.count(1), 1);
        due("winner", x.count(2), 1);
        due("mover stays", x.count(0), 1);
    }

    private static void winding() {
        Check.part("winding");
        ClockworkChess x = bare();
        x.put(0, 1, ROLLER, 0);
        x.put(5, 1, WALKER, 8);
        x.put(14, 1, CROWN, 9);
        x.put(21, 0, HOPPER, 2);
        x.put(30, 0, CROWN, 1);
        x.put(1, 1, ROLLER, 4);
        due("move", x.move(30, 31), 1);
        due("wound", x.cell(0, 2), 2);
        due("wound to the limit", x.cell(5, 2), 9);
        due("full", x.cell(14, 2), 9);
        due("the other side's turn", x.cell(21, 2), 2);
        due("no tower", x.cell(1, 2), 4);
        dueAccounts(x, 96, 3, 0, 1, 0, 26, 24 - 96);
        due("move back", x.move(1, 2), 1);
        due("wound now", x.cell(21, 2), 4);
        due("left the tower", x.cell(31, 2), 0);
        due("account", x.count(21), 5);
        x.set(2, 5);
        x.move(21, 8);
        due("wound by 5", x.cell(0, 2), 7);
        x.set(2, 0);
        x.move(2, 3);
        x.move(31, 30);
        due("not wound by 0", x.cell(0, 2), 7);
        x = bare();
        x.put(0, 0, ROLLER, 4);
        x.put(30, 1, ROLLER, 0);
        x.put(29, 1, CROWN, 2);
        x.tower(0);
        x.tower(29);
        x.move(0, 6);
        due("a new tower winds", x.cell(29, 2), 4);
        x.setUp();
        due("no winding at the set up", x.cell(0, 2), 4);
    }

    private static void promotion() {
        Check.part("promotion");
        ClockworkChess x = bare();
        x.put(24, 0, WALKER, 3);
        x.put(11, 1, WALKER, 2);
        x.put(4, 0, CROWN, 4);
        due("up", x.move(24, 30), 1);
        dueCell(x, 30, 0, ROLLER, 2);
        due("down and takes", x.move(11, 4), 1);
        dueCell(x, 4, 1, ROLLER, 4);
        due("over", x.count(1), 1);
        x = bare();
        x.put(31, 0, WALKER, 3);
        x.put(7, 0, WALKER, 3);
        dueCell(x, 31, 0, WALKER, 3);
        due("no way ahead", x.cell(31, 4), 0);
        due("move", x.move(7, 13), 1);
        dueCell(x, 13, 0, WALKER, 2);
        x = bare();
        x.put(1, 1, WALKER, 3);
        x.put(25, 0, CROWN, 3);
        due("a crown stays one", x.move(25, 31), 1);
        dueCell(x, 31, 0, CROWN, 2);
        due("no way ahead", x.cell(1, 4), 0);
    }

    private static void pass() {
        Check.part("10 pass");
        ClockworkChess x = new ClockworkChess();
        due("pass with moves", x.pass(), IMPOSSIBLE);
        due("nothing changed", x.count(3) + x.count(8), 0);
        x = bare();
        x.put(2, 0, CROWN, 0);
        x.put(30, 1, CROWN, 0);
        due("stalled", x.pass(), 0);
        due("mover", x.count(0), 1);
        due("made", x.count(3), 1);
        due("wound", x.cell(30, 2), 2);
        due("wound, so no pass", x.pass(), IMPOSSIBLE);
        due("move", x.move(30, 31), 1);
        due("pass of 0 again", x.pass(), 0);
        due("move of 1", x.move(31, 30), 1);
        due("pass of 0", x.pass(), 0);
        due("goes on", x.count(1), 0);
        due("made", x.count(3), 5);
        x = bare();
        x.put(0, 0, WALKER, 1);
        due("pass with one move", x.pass(), IMPOSSIBLE);
        due("the move", x.move(0, 6), 1);
        due("pass of 1 ahead of 0", x.pass(), 0);
        due("mover", x.count(0), 0);
        due("goes on", x.count(1), 0);
        due("pass of 0 behind 1", x.pass(), 1);
        due("mover stays", x.count(0), 0);
        x = bare();
        due("pass", x.pass(), 0);
        x.put(2, 1, CROWN, 1);
        due("a move between", x.move(2, 3), 1);
        due("pass of 0", x.pass(), 0);
        due("pass of 1", x.pass(), 1);
        due("ending", x.count(1), 2);
        due("mover stays", x.count(0), 1);
        due("again", x.pass(), IMPOSSIBLE);
        due("history", x.count(8), 5);
        due("undo", x.undo(), 4);
        due("goes on", x.count(1), 0);
        due("pass is known still", x.pass(), 1);
        x.undo();
        x.undo();
        due("first pass once more", x.pass(), 0);
    }

    private static void winners() {
        Check.part("winners");
        for (int more = 0; more < 2; more++) {
            ClockworkChess x = bare();
            x.set(2, 0);
            x.put(33, 0, WALKER, 3 + more);
            x.put(3, 1, WALKER, 4 - more);
            due("pass", x.pass(), 0);
            due("no winner yet", x.count(2), MISSING);
            due("pass", x.pass(), 1);
            due("ending", x.count(1), 2);
            due("winner", x.count(2), 1 - more);
            x.set(0, 1);
            due("the winner stays", x.count(2), 1 - more);
        }
        ClockworkChess x = bare();
        x.put(33, 0, WALKER, 4);
        x.put(3, 1, WALKER, 4);
        x.pass();
        x.pass();
        due("ending", x.count(1), 2);
        due("none", x.count(2), MISSING);
        x = bare();
        x.put(5, 1, WALKER, 1);
        x.put(33, 0, WALKER, 2);
        x.pass();
        x.pass();
        due("what was wound counts", x.count(2), 1);
        x = bare();
        x.put(30, 0, WALKER, 1);
        x.put(3, 1, WALKER, 2);
        x.pass();
        x.pass();
        due("no turn behind the end", x.cell(30, 2), 1);
        due("so the other one wins", x.count(2), 1);
    }

    private static void refusal() {
        Check.part("11 refusal");
        ClockworkChess x = new ClockworkChess();
        for (int wrong : WRONG_CELLS) {
            due("refusal(" + wrong + ", 0)", x.refusal(wrong, 0), INVALID);
            due("refusal(0, " + wrong + ")", x.refusal(0, wrong), INVALID);
        }
        due("possible", x.refusal(6, 12), 0);
        due("no piece", x.refusal(14, 14), 3);
        due("no piece, own there", x.refusal(14, 0), 3);
        due("the other side", x.refusal(24, 18), 4);
        due("the other side, itself", x.refusal(24, 24), 4);
        due("own there", x.refusal(0, 6), 5);
        due("own there, not so", x.refusal(0, 7), 5);
        due("itself", x.refusal(0, 0), 5);
        due("not so", x.refusal(6, 18), 6);
        due("in between", x.refusal(0, 12), 6);
        x.put(6, 0, WALKER, 0);
        due("weak", x.refusal(6, 12), 7);
        due("not so and weak", x.refusal(6, 13), 6);
        x.move(7, 13);
        due("turn of 1", x.refusal(24, 18), 0);
        due("0 is the other side now", x.refusal(8, 14), 4);
        x = over();
        due("over", x.refusal(0, 1), 2);
        due("over, itself", x.refusal(0, 0), 2);
        due("over, out of range", x.refusal(0, 36), INVALID);
    }

    private static void kinds() {
        Check.part("kinds");
        ClockworkChess x = bare();
        x.set(0, 12);
        x.put(14, 0, CROWN, 12);
        dueCosts(x, 14, new int[] {7, 8, 9, 13, 15, 19, 20, 21}, new int[] {1, 1, 1, 1, 1, 1, 1, 1});
        x.put(14, 0, ROLLER, 12);
        dueCosts(x, 14, new int[] {2, 8, 12, 13, 15, 16, 17, 20, 26, 32},
            new int[] {2, 1, 2, 1, 1, 2, 3, 1, 2, 3});
        x.put(14, 0, SLIDER, 12);
        dueCosts(x, 14, new int[] {0, 4, 7, 9, 19, 21, 24, 28, 35}, new int[] {2, 2, 1, 1, 1, 1, 2, 2, 3});
        x.put(14, 0, HOPPER, 12);
        dueCosts(x, 14, new int[] {1, 3, 6, 10, 18, 22, 25, 27}, new int[] {2, 2, 2, 2, 2, 2, 2, 2});
        x.put(14, 0, WALKER, 12);
        dueCosts(x, 14, new int[] {20}, new int[] {1});
        x.put(14, 1, WALKER, 12);
        dueCosts(x, 14, new int[] {8}, new int[] {1});
        // No line goes around the border.
        x = bare();
        x.set(0, 12);
        x.put(11, 0, CROWN, 12);
        dueCosts(x, 11, new int[] {4, 5, 10, 16, 17}, new int[] {1, 1, 1, 1, 1});
        x.put(11, 0, SLIDER, 12);
        dueCosts(x, 11, new int[] {4, 16, 21, 26, 31}, new int[] {1, 1, 2, 3, 4});
        x.put(11, 0, HOPPER, 12);
        dueCosts(x, 11, new int[] {3, 15, 22}, new int[] {2, 2, 2});
        x.put(11, -1, 0, 0);
        x.put(12, 0, WALKER, 12);
        x.put(11, 1, CROWN, 1);
        x.put(17, 1, CROWN, 1);
        x.put(23, 1, CROWN, 1);
        x.put(18, 1, CROWN, 1);
        dueCosts(x, 12, new int[] {}, new int[] {});
        x.put(19, 1, CROWN, 1);
        dueCosts(x, 12, new int[] {19}, new int[] {1});
        x.put(19, 0, CROWN, 1);
        dueCosts(x, 12, new int[] {}, new int[] {});
        // A line ends at a piece: the own one before it, another one on it.
        x.put(12, 0, ROLLER, 12);
        x.put(15, 1, CROWN, 1);
        x.put(0, 0, CROWN, 1);
        dueCosts(x, 12, new int[] {6, 13, 14, 15, 18}, new int[] {1, 1, 2, 3, 1});
        x = bare();
        x.put(0, 1, SLIDER, 9);
        x.put(21, 0, CROWN, 1);
        dueCosts(x, 0, new int[] {7, 14, 21}, new int[] {1, 2, 3});
        x.put(21, 1, CROWN, 1);
        dueCosts(x, 0, new int[] {7, 14}, new int[] {1, 2});
    }

    private static void dueCosts(ClockworkChess x, int from, int[] to, int[] costs) {
        int[] wanted = new int[36];
        java.util.Arrays.fill(wanted, MISSING);
        for (int i = 0; i < to.length; i++) {
            wanted[to[i]] = costs[i];
        }
        int kind = x.cell(from, 1);
        for (int cell = 0; cell < CELLS; cell++) {
            due("cost(" + from + ", " + cell + ") of kind " + kind, x.cost(from, cell), wanted[cell]);
        }
        due("moves from " + from, x.cell(from, 4), to.length);
    }

    private static void cost() {
        Check.part("12 cost");
        ClockworkChess x = new ClockworkChess();
        for (int wrong : WRONG_CELLS) {
            due("cost(" + wrong + ", 0)", x.cost(wrong, 0), INVALID);
            due("cost(0, " + wrong + ")", x.cost(0, wrong), INVALID);
        }
        due("no piece", x.cost(14, 20), MISSING);
        due("own there", x.cost(0, 1), MISSING);
        due("itself", x.cost(0, 0), MISSING);
        due("whichever side", x.cost(24, 18), 1);
        x.put(6, 0, WALKER, 0);
        due("spring or not", x.cost(6, 12), 1);
        x.put(6, -1, 0, 0);
        x.put(0, 0, ROLLER, 0);
        due("4 steps", x.cost(0, 24), 4);
        due("not through it", x.cost(0, 30), MISSING);
        x = bare();
        x.put(0, 1, ROLLER, 0);
        x.pass();
        x.put(0, 1, ROLLER, 0);
        x.pass();
        due("over", x.count(1), 2);
        due("also when it is over", x.cost(0, 30), 5);
    }

    private static void moves() {
        Check.part("13 moves");
        ClockworkChess x = new ClockworkChess();
        for (int wrong : WRONG_SIDES) {
            due("moves(" + wrong + ")", x.moves(wrong), INVALID);
        }
        due("moves(0)", x.moves(0), 10);
        due("moves(1)", x.moves(1), 10);
        x.put(6, 0, WALKER, 0);
        due("one is stalled", x.moves(0), 9);
        x.put(0, -1, 0, 0);
        x.put(5, -1, 0, 0);
        due("no more", x.moves(0), 9);
        x = bare();
        x.put(0, 0, ROLLER, 0);
        x.put(35, 1, ROLLER, 0);
        due("not as if wound", x.moves(0) + x.moves(1), 0);
        x.put(2, 0, CROWN, 1);
        x.put(3, 1, CROWN, 1);
        x.move(2, 3);
        due("behind the end", x.moves(0), 5);
        due("behind the end", x.moves(1), 0);
        due("not as if wound", x.cell(35, 2), 0);
    }

    private static void listed() {
        Check.part("14 listed");
        ClockworkChess x = new ClockworkChess();
        for (int wrong : WRONG_SIDES) {
            due("listed(" + wrong + ", 0)", x.listed(wrong, 0), INVALID);
        }
        due("listed(0, -1)", x.listed(0, -1), INVALID);
        due("listed(0, min)", x.listed(0, Integer.MIN_VALUE), INVALID);
        due("listed(0, max)", x.listed(0, Integer.MAX_VALUE), MISSING);
        dueList(x, 0, 48, 50, 159, 161, 228, 265, 302, 339, 376, 413);
        dueList(x, 1, 882, 919, 956, 993, 1030, 1067, 31 * 36 + 18, 31 * 36 + 20, 34 * 36 + 21,
            34 * 36 + 23);
        x = bare();
        dueList(x, 0);
        x.put(30, 0, ROLLER, 2);
        x.put(8, 0, HOPPER, 1);
        x.put(12, 0, WALKER, 1);
        x.put(19, 1, CROWN, 0);
        dueList(x, 0, 12 * 36 + 18, 12 * 36 + 19, 30 * 36 + 18, 30 * 36 + 24, 30 * 36 + 31,
            30 * 36 + 32);
        dueList(x, 1);
        x.put(1, 0, CROWN, 1);
        x.put(0, 0, WALKER, 1);
        dueList(x, 0, 6, 36 + 2, 36 + 6, 36 + 7, 12 * 36 + 18, 12 * 36 + 19, 30 * 36 + 18,
            30 * 36 + 24, 30 * 36 + 31, 30 * 36 + 32);
        x.put(0, -1, 0, 0);
        due("to the cell 0", x.listed(0, 0), 36);
        x.put(1, -1, 0, 0);
        x.put(13, 0, CROWN, 1);
        x.put(24, 0, WALKER, 0);
        x.move(13, 19);
        due("over", x.count(1), 1);
        due("behind the end", x.listed(0, 0), 12 * 36 + 18);
    }

    private static void struck() {
        Check.part("15 struck");
        ClockworkChess x = new ClockworkChess();
        for (int wrong : WRONG_CELLS) {
            due("struck(" + wrong + ", 0)", x.struck(wrong, 0), INVALID);
        }
        for (int wrong : WRONG_SIDES) {
            due("struck(0, " + wrong + ")", x.struck(0, wrong), INVALID);
        }
        due("struck(12, 0)", x.struck(12, 0), 2);
        due("struck(13, 0)", x.struck(13, 0), 2);
        due("struck(14, 0)", x.struck(14, 0), 3);
        due("struck(14, 1)", x.struck(14, 1), 0);
        due("struck(18, 1)", x.struck(18, 1), 2);
        due("instead of an own one", x.struck(7, 0), 1);
        due("instead of an own one", x.struck(1, 0), 2);
        dueSetUp(x, 4);
        x = bare();
        x.put(12, 0, WALKER, 1);
        due("not straight ahead", x.struck(18, 0), 0);
        due("diagonally", x.struck(19, 0), 1);
        due("not around the border", x.struck(23, 0), 0);
        due("not back", x.struck(7, 0), 0);
        x.put(12, 0, WALKER, 0);
        due("too weak", x.struck(19, 0), 0);
        x.put(0, 0, ROLLER, 5);
        x.put(3, 1, CROWN, 9);
        due("on a piece", x.struck(3, 0), 1);
        due("behind a piece", x.struck(4, 0), 0);
        due("by the other side", x.struck(4, 1), 1);
        due("on the own cell, by itself", x.struck(3, 1), 0);
        x.put(1, 0, CROWN, 1);
        x.put(2, 1, CROWN, 1);
        x.put(12, -1, 0, 0);
        x.move(1, 2);
        due("over", x.count(1), 1);
        due("behind the end", x.struck(30, 0), 1);
    }

    private static void reach() {
        Check.part("16 reach");
        ClockworkChess x = new ClockworkChess();
        for (int wrong : WRONG_CELLS) {
            due("reach(" + wrong + ", 0)", x.reach(wrong, 0), INVALID);
        }
        due("reach(0, -1)", x.reach(0, -1), INVALID);
        due("reach(0, 13)", x.reach(0, 13), INVALID);
        due("reach(14, 13)", x.reach(14, 13), INVALID);
        due("reach(14, 0)", x.reach(14, 0), MISSING);
        due("reach(0, 12)", x.reach(0, 12), 1);
        due("reach(1, 0)", x.reach(1, 0), 1);
        due("reach(1, 1)", x.reach(1, 1), 3);
        due("reach(1, 2)", x.reach(1, 2), 6);
        due("reach(6, 1)", x.reach(6, 1), 2);
        due("reach(6, 12)", x.reach(6, 12), 3);
        due("reach(24, 12)", x.reach(24, 12), 3);
        dueSetUp(x, 4);
        x = bare();
        x.put(35, 0, CROWN, 9);
        due("all, from the last", x.reach(35, 5), 36);
        x.put(35, -1, 0, 0);
        x.put(0, 0, CROWN, 2);
        due("no move", x.reach(0, 0), 1);
        due("one move", x.reach(0, 1), 4);
        due("two moves", x.reach(0, 2), 9);
        due("the spring ends it", x.reach(0, 12), 9);
        x.put(0, 0, CROWN, 9);
        due("all", x.reach(0, 5), 36);
        due("not all", x.reach(0, 4), 25);
        x.put(0, 0, WALKER, 9);
        due("a walker", x.reach(0, 5), 6);
        due("stays one", x.reach(0, 12), 6);
        x.put(7, 1, WALKER, 9);
        due("takes nothing", x.reach(0, 12), 6);
        x.put(12, 1, WALKER, 9);
        due("up to a piece", x.reach(0, 12), 2);
        x.put(0, 0, ROLLER, 9);
        x.put(6, 0, WALKER, 0);
        due("a roller", x.reach(0, 1), 6);
        x.put(1, 1, CROWN, 0);
        due("shut in", x.reach(0, 12), 1);
        x = bare();
        x.put(0, 0, ROLLER, 3);
        due("one move", x.reach(0, 1), 7);
        due("two moves", x.reach(0, 2), 10);
        due("three moves", x.reach(0, 3), 10);
        x.put(1, 0, ROLLER, 6);
        x.put(0, 0, WALKER, 0);
        x.put(13, 0, WALKER, 0);
        x.put(2, 0, WALKER, 0);
        due("in a blind alley", x.reach(1, 1), 2);
        due("across the cell that it left", x.reach(7, 12), MISSING);
        x.put(2, -1, 0, 0);
        x.put(6, 0, WALKER, 0);
        x.put(8, 0, WALKER, 0);
        due("back across its own cell", x.reach(1, 2), 15);
        x.put(1, 0, ROLLER, 0);
        due("no spring", x.reach(1, 12), 1);
        // A way of more moves may leave more of the spring: both have to be followed.
        x = bare();
        x.set(0, 12);
        int[] walls = {7, 9, 17, 23, 25, 28};
        for (int wall : walls) {
            x.put(wall, 1, WALKER, 0);
        }
        x.put(5, 0, ROLLER, 11);
        due("all but the walls", x.reach(5, 6), 30);
    }

    private static void replies() {
        Check.part("17 replies");
        ClockworkChess x = new ClockworkChess();
        due("at first", x.replies(), 100);
        dueSetUp(x, 4);
        due("nothing recorded", x.count(8), 0);
        x = bare();
        due("no move", x.replies(), 0);
        x.put(0, 0, CROWN, 1);
        due("no answer", x.replies(), 3);
        x.put(35, 1, CROWN, 0);
        due("answers by what is wound", x.replies(), 9);
        x.set(2, 0);
        due("no winding", x.replies(), 3);
        x.put(35, 1, CROWN, 1);
        x.put(7, 1, CROWN, 1);
        // Two first moves leave 11 answers each, and one takes a crown.
        due("a crown that is taken", x.replies(), 1 + (8 + 3) * 2);
        x.move(0, 7);
        due("over", x.replies(), 0);
        x = bare();
        x.put(1, 0, CROWN, 1);
        due("to the cell 0, too", x.replies(), 5);
        x.put(1, -1, 0, 0);
        x.put(31, 0, WALKER, 1);
        x.put(20, 1, WALKER, 1);
        due("stalled", x.replies(), 0);
        x.pass();
        due("of the side 1", x.replies(), 1);
    }

    private static void best() {
        Check.part("18 best");
        ClockworkChess x = new ClockworkChess();
        due("at first", x.best(), 6 * 36 + 12);
        dueSetUp(x, 4);
        due("nothing recorded", x.count(8), 0);
        x = bare();
        due("none", x.best(), MISSING);
        x.put(0, 0, ROLLER, 9);
        due("the cheapest, the first", x.best(), 1);
        x.put(4, 1, WALKER, 8);
        due("takes", x.best(), 4);
        x.put(12, 1, WALKER, 9);
        due("takes more", x.best(), 12);
        x.put(35, 1, CROWN, 0);
        x.put(34, 0, CROWN, 1);
        due("a crown before all", x.best(), 34 * 36 + 35);
        x.put(1, 0, CROWN, 9);
        x.put(7, 1, CROWN, 8);
        due("the crown with more", x.best(), 36 + 7);
        x.put(8, 0, ROLLER, 9);
        due("the same, the first one", x.best(), 36 + 7);
        x.put(1, -1, 0, 0);
        due("the other one then", x.best(), 8 * 36 + 7);
        x.move(8, 7);
        due("over", x.best(), MISSING);
        // A loss is not worse than nothing: there is a best one, if all lose.
        x = bare();
        x.put(34, 0, CROWN, 1);
        x.put(0, 1, CROWN, 9);
        due("all are the same", x.best(), 34 * 36 + 27);
        // What is wound at the next turn would make the first move worse.
        x = bare();
        x.put(6, 0, CROWN, 3);
        x.put(35, 1, WALKER, 0);
        due("winding does not count", x.best(), 6 * 36);
        // The limit cuts the gain: what is lost counts for nobody.
        x = bare();
        x.put(0, 0, CROWN, 9);
        x.put(1, 1, WALKER, 2);
        x.put(12, 0, CROWN, 3);
        x.put(13, 1, WALKER, 2);
        due("the weaker piece gains more", x.best(), 12 * 36 + 13);
        x.set(1, 0);
        due("none is cut", x.best(), 1);
        x = bare();
        x.put(6, 1, WALKER, 2);
        x.put(1, 0, WALKER, 0);
        x.set(1, 0);
        x.pass();
        due("of the side 1", x.best(), 6 * 36);
        x.put(1, 0, WALKER, 1);
        due("of the side 1, taking", x.best(), 6 * 36 + 1);
    }

    private static void type() {
        Check.part("19 type");
        ClockworkChess x = new ClockworkChess();
        int[] wrong = {31, 127, 0, -1, Integer.MIN_VALUE, Integer.MAX_VALUE};
        for (int character : wrong) {
            due("type(" + character + ")", x.type(character), INVALID);
        }
        due("type(32)", x.type(32), 1);
        due("type(126)", x.type(126), 2);
        for (int i = 3; i <= 80; i++) {
            due("type(97)", x.type(97), i);
        }
        due("full", x.type(97), LIMIT);
        due("full and out of range", x.type(31), INVALID);
        due("length", x.count(9), 80);
        due("no change", x.count(8), 0);
    }

    private static void clearText() {
        Check.part("20 clearText");
        ClockworkChess x = new ClockworkChess();
        due("empty", x.clearText(), 0);
        write(x, "a2a3;");
        due("5", x.clearText(), 5);
        due("length", x.count(9), 0);
        due("empty again", x.clearText(), 0);
        write(x, "b");
        due("1", x.clearText(), 1);
        due("no fault", x.fault(0), MISSING);
        for (int i = 1; i <= 80; i++) {
            x.type(97);
        }
        due("80", x.clearText(), 80);
        due("type again", x.type(97), 1);
        due("no change", x.count(8), 0);
    }

    private static void fault() {
        Check.part("21 fault");
        ClockworkChess x = new ClockworkChess();
        due("fault(-1)", x.fault(-1), INVALID);
        due("fault(2)", x.fault(2), INVALID);
        due("empty", x.fault(0), MISSING);
        due("empty", x.fault(1), MISSING);
        dueNoFault(x, "a2a3;");
        dueNoFault(x, "a2a3;a5a4;a3a4;".substring(0, 10));
        dueFault(x, "a2a3;a5a4;a3a4;", 10, 6);
        dueFault(x, "a2a3;a2a3;", 5, 3);
        dueFault(x, "a2a3;b2b3;", 5, 4);
        dueFault(x, "a1a2;", 0, 5);
        dueFault(x, "a1a1;", 0, 5);
        dueFault(x, "a1a3;", 0, 6);
        dueFault(x, "a2a3;-;", 5, 8);
        dueFault(x, "-;", 0, 8);
        dueFault(x, "a2a3;f6f4;zz", 5, 6);
        x.put(6, 0, WALKER, 0);
        dueFault(x, "a2a3;", 0, 7);
        due("nothing recorded", x.count(8), 1);
        x = over();
        dueFault(x, "-;", 0, 2);
        dueFault(x, "a2a3;", 0, 2);
        dueFault(x, "a2", 0, 1);
        x = bare();
        dueNoFault(x, "-;-;");
        dueFault(x, "-;-;-;", 4, 2);
        dueFault(x, "-;-;a1a2;", 4, 2);
        dueFault(x, "-;-;?", 4, 1);
        x.put(0, 0, CROWN, 9);
        x.put(1, 1, CROWN, 9);
        dueNoFault(x, "a1b1;");
        dueFault(x, "a1b1;b1c1;", 5, 2);
        x = bare();
        x.put(0, 1, CROWN, 0);
        dueNoFault(x, "-;a1a2;-;");
        dueFault(x, "-;-;", 2, 8);
        // The longest text without a fault of 16 moves: two crowns that go to and fro.
        x.put(0, 0, CROWN, 9);
        x.put(5, 0, CROWN, 9);
        x.put(30, 1, CROWN, 9);
        x.tower(1);
        x.tower(6);
        x.tower(31);
        x.tower(14);
        x.tower(31);
        x.tower(24);
        dueNoFault(x, ("a1a2;a6a5;a2a1;a5a6;".repeat(4)));
        due("16 moves", x.play(), 16);
    }

    private static void faultOfForm() {
        Check.part("21 fault of the form");
        String[] wrong = {"a", "a2", "a2a", "a2a3", "a2a3:", "A2a3;", "a2A3;", "g2a3;", "a2g3;",
            "a0a3;", "a7a3;", "a2a0;", "a2a7;", "-", "--;", "- ;", ";", ";;", " a2a3;", "a2-a3;",
            "`2a3;", "a/a3;", "2aa3;", "a2a3 ;", "-a2a3;", "~", "a2;a3;"};
        for (String text : wrong) {
            ClockworkChess x = new ClockworkChess();
            dueFault(x, text, 0, 1);
            dueFault(x, "a2a3;" + text, 5, 1);
        }
        ClockworkChess x = new ClockworkChess();
        dueFault(x, "a2a3;a5a4; ", 10, 1);
        dueFault(x, "a2a3;;", 5, 1);
        write(x, "a2a3;");
        x.clearText();
        write(x, "a2");
        due("what was there before is gone", x.fault(1), 1);
    }

    private static void play() {
        Check.part("22 play");
        ClockworkChess x = new ClockworkChess();
        due("empty", x.play(), 0);
        due("also a change", x.count(8), 1);
        dueSetUp(x, 4);
        write(x, "b1c3;b6c4;c3b5;");
        due("play()", x.play(), 3);
        due("one change", x.count(8), 2);
        due("text stays", x.count(9), 15);
        due("made", x.count(3), 3);
        due("mover", x.count(0), 1);
        dueCell(x, 25, 0, HOPPER, 5);
        dueAccounts(x, 96, 4 + 6 + 4, 1, 6, 2, 103, 0);
        due("now it has a fault", x.fault(0), 0);
        due("play() again", x.play(), IMPOSSIBLE);
        due("nothing recorded", x.count(8), 2);
        due("undo all of it", x.undo(), 1);
        dueSetUp(x, 4);
        due("the text stays", x.count(9), 15);
        due("play() again", x.play(), 3);
        x = bare();
        write(x, "-;-;");
        due("play()", x.play(), 2);
        due("over", x.count(1), 2);
        x.clearText();
        due("nothing to play while over", x.play(), 0);
        due("still over", x.count(1), 2);
        x.undo();
        x.undo();
        write(x, "-;");
        due("a pass by text", x.play(), 1);
        due("and one by a call", x.pass(), 1);
        x = bare();
        x.put(0, 0, CROWN, 9);
        x.put(1, 1, CROWN, 9);
        write(x, "a1b1;");
        due("play()", x.play(), 1);
        due("over", x.count(1), 1);
        due("winner", x.count(2), 0);
    }
}
