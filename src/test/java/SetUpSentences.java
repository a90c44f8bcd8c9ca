/** Promises 1 to 8, a new object and setting up: a test for each sentence, or part of one. */
final class SetUpSentences extends Games {
    private static final int[] TOWERS = {0, 5, 14, 21, 30, 35};

    private SetUpSentences() {
    }

    static void run() {
        newObject();
        setUp();
        set();
        put();
        tower();
        cell();
        countOfGame();
        countOfPieces();
        undo();
    }

    private static void newObject() {
        Doc.section("Promise 1");
        Doc.says("Creates a game that is set up.", x -> {
            dueSetUp(x, 4);
            due("the limit", x.count(10), 9);
            due("the bonus", x.count(11), 1);
            due("the winding", x.count(12), 2);
            due("no text", x.count(9), 0);
            due("no history", x.count(8), 0);
            due("nothing to undo", x.undo(), IMPOSSIBLE);
            x.move(6, 12);
            due("another object", new ClockworkChess().cell(6, 0), 0);
        });
    }

    private static void setUp() {
        Doc.section("Promise 2");
        Doc.says("Sets the game up anew;", x -> {
            x.tower(0);
            x.tower(7);
            put(x, "1 crown c4 9");
            move(x, "b1a3");
            x.setUp();
            dueSetUp(x, 4);
            ClockworkChess y = crownTaken();
            due("setUp() behind the end", y.setUp(), 96);
            dueSetUp(y, 4);
            y = over();
            due("setUp() behind passes", y.setUp(), 96);
            dueSetUp(y, 4);
        });
        Doc.says("settings stay.", x -> {
            x.set(0, 12);
            x.set(1, 0);
            x.set(2, 5);
            x.setUp();
            due("the limit", x.count(10), 12);
            due("the bonus", x.count(11), 0);
            due("the winding", x.count(12), 5);
            x.set(0, 1);
            x.set(1, 5);
            x.set(2, 0);
            x.setUp();
            due("the limit", x.count(10), 1);
            due("the bonus", x.count(11), 5);
            due("the winding", x.count(12), 0);
        });
        Doc.says("Returns the sum of all springs.", x -> {
            due("setUp()", x.setUp(), 96);
            x.set(0, 12);
            due("setUp() of 12", x.setUp(), 144);
            x.set(0, 11);
            due("setUp() of 11", x.setUp(), 120);
            x.set(0, 1);
            due("setUp() of 1", x.setUp(), 0);
        });
    }

    private static void set() {
        Doc.section("Promise 3");
        Doc.says("Sets a setting.", x -> {
            x.set(0, 10);
            x.set(1, 4);
            x.set(2, 3);
            due("the limit", x.count(10), 10);
            due("the bonus", x.count(11), 4);
            due("the winding", x.count(12), 3);
            due("also when the game is over", over().set(2, 1), 2);
        });
        Doc.says("With a lesser limit, springs above it are cut to it (as by put).", x -> {
            put(x, "0 roller c4 9", "1 roller d3 8", "0 slider b3 7");
            x.set(0, 8);
            dueSpring(x, "c4", 8);
            dueSpring(x, "d3", 8);
            dueSpring(x, "b3", 7);
            dueAccounts(x, 96, 0, 0, 0, 0, 96 + 23, 23);
            x.set(0, 1);
            due("one each", x.count(25), 27);
            dueAccounts(x, 96, 0, 0, 0, 0, 27, 27 - 96);
            x.set(0, 12);
            due("cut for ever", x.count(25), 27);
            ClockworkChess y = over("0 walker b6 5", "1 walker b1 3");
            y.set(0, 4);
            dueSpring(y, "b6", 4);
            dueSpring(y, "b1", 3);
        });
        Doc.says("- `what`: 0: the limit (1 to 12);", x -> dueRange("set(0, ..)", v -> x.set(0, v), 1, 12));
        Doc.says("1: the bonus (0 to 5);", x -> dueRange("set(1, ..)", v -> x.set(1, v), 0, 5));
        Doc.says("2: the winding (0 to 5)", x -> dueRange("set(2, ..)", v -> x.set(2, v), 0, 5));
        Doc.says("- `value`: a value in its range", x -> {
            due("0, for the limit", x.set(0, 0), INVALID);
            due("12, for the bonus", x.set(1, 12), INVALID);
            due("6, for the winding", x.set(2, 6), INVALID);
            due("0, for the bonus", x.set(1, 0), 1);
            due("0, for the winding", x.set(2, 0), 2);
            due("6, for the limit", x.set(0, 6), 9);
        });
        Doc.says("Returns the previous value;", x -> {
            due("set(0, 12)", x.set(0, 12), 9);
            due("set(0, 1)", x.set(0, 1), 12);
            due("set(0, 1)", x.set(0, 1), 1);
            due("set(1, 5)", x.set(1, 5), 1);
            due("set(1, 0)", x.set(1, 0), 5);
            due("set(2, 5)", x.set(2, 5), 2);
            due("set(2, 0)", x.set(2, 0), 5);
            due("set(2, 1)", x.set(2, 1), 0);
        });
        Doc.says("INVALID_ARGUMENT if an argument is out of range.", x -> {
            dueRange("set(.., 1)", what -> x.set(what, 1), 0, 2);
            due("both", x.set(3, 99), INVALID);
            due("set(-1, 9)", x.set(-1, 9), INVALID);
        });
    }

    private static void put() {
        Doc.section("Promise 4");
        Doc.says("Puts a piece on a cell, instead of what is there, or empties the cell.", x -> {
            put(x, "1 hopper c4 9");
            duePiece(x, "1 hopper c4 9");
            due("one more", x.count(4), 25);
            put(x, "0 slider c4 2");
            duePiece(x, "0 slider c4 2");
            due("instead", x.count(4), 25);
            due("with a kind and a spring", x.put(at("c4"), -1, WALKER, 9), 1);
            dueEmpty(x, "c4");
            due("one less", x.count(4), 24);
            put(x, "0 roller c3 1");
            due("a tower stays one", x.cell(at("c3"), 3), 1);
        });
        Doc.says("- `cell`: 0 to 35", x -> dueRange("put", c -> x.put(c, 0, 0, 0), 0, 35));
        Doc.says("- `side`: 0 or 1, or -1 to empty the cell", x -> {
            dueRange("put", side -> x.put(0, side, 0, 0), -1, 1);
            put(x, "0 roller c4 1");
            duePiece(x, "0 roller c4 1");
            put(x, "1 roller c4 1");
            duePiece(x, "1 roller c4 1");
            x.put(at("c4"), -1, ROLLER, 1);
            dueEmpty(x, "c4");
        });
        Doc.says("- `kind`: 0 to 4", x -> {
            dueRange("put", kind -> x.put(0, 0, kind, 0), 0, 4);
            for (int kind = 0; kind <= 4; kind++) {
                x.put(0, 1, kind, 3);
                dueCell(x, 0, 1, kind, 3);
            }
        });
        Doc.says("- `spring`: 0 to the limit", x -> {
            dueRange("put", spring -> x.put(0, 0, 0, spring), 0, 9);
            x.set(0, 12);
            dueRange("put of 12", spring -> x.put(0, 0, 0, spring), 0, 12);
            x.set(0, 1);
            dueRange("put of 1", spring -> x.put(0, 0, 0, spring), 0, 1);
        });
        Doc.says("Returns 1 if there was a piece, otherwise 0;", x -> {
            due("on an empty cell", x.put(at("c4"), 0, CROWN, 0), 0);
            due("instead", x.put(at("c4"), 1, CROWN, 0), 1);
            due("to empty", x.put(at("c4"), -1, CROWN, 0), 1);
            due("to empty an empty one", x.put(at("c4"), -1, CROWN, 0), 0);
        });
        Doc.says("INVALID_ARGUMENT if an argument is out of range (for an empty cell, too);", x -> {
            for (int cell : new int[] {at("a1"), at("c4")}) {
                due("to empty, kind 5", x.put(cell, -1, 5, 0), INVALID);
                due("to empty, kind -1", x.put(cell, -1, -1, 0), INVALID);
                due("to empty, spring 10", x.put(cell, -1, 0, 10), INVALID);
                due("to empty, spring -1", x.put(cell, -1, 0, -1), INVALID);
                due("side -2", x.put(cell, -2, 0, 0), INVALID);
                due("side 2", x.put(cell, 2, 0, 0), INVALID);
            }
            due("to empty no cell", x.put(36, -1, 0, 0), INVALID);
            duePiece(x, "0 roller a1 4");
        });
        Doc.says("NOT_POSSIBLE if the game is over.", x -> {
            ClockworkChess y = over();
            due("put behind passes", y.put(0, 0, 0, 0), IMPOSSIBLE);
            due("to empty", y.put(0, -1, 0, 0), IMPOSSIBLE);
            y.undo();
            due("it goes on", y.put(0, 0, 0, 0), 0);
            y = crownTaken();
            due("put behind a taken crown", y.put(0, 0, 0, 0), IMPOSSIBLE);
            y.setUp();
            due("set up anew", y.put(0, 0, 0, 0), 1);
        });
    }

    private static void tower() {
        Doc.section("Promise 5");
        Doc.says("Makes a cell a tower, or a tower a cell without one.", x -> {
            x.tower(at("a1"));
            due("none now", x.cell(at("a1"), 3), 0);
            duePiece(x, "0 roller a1 4");
            x.tower(at("a5"));
            due("one now", x.cell(at("a5"), 3), 1);
            duePiece(x, "1 walker a5 4");
            move(x, "a2a3");
            dueSpring(x, "a5", 6);
            move(x, "f5f4");
            dueSpring(x, "a1", 4);
            due("also when the game is over", over().tower(0), 5);
        });
        Doc.says("- `cell`: 0 to 35", x -> dueRange("tower", x::tower, 0, 35));
        Doc.says("Returns the number of towers then;", x -> {
            for (int gone = 0; gone < 6; gone++) {
                due("one less", x.tower(TOWERS[gone]), 5 - gone);
            }
            for (int made = 1; made <= 6; made++) {
                due("one more", x.tower(6 + made), made);
            }
        });
        Doc.says("INVALID_ARGUMENT if cell is out of range;", x -> {
            due("with 6 towers", x.tower(36), INVALID);
            x.tower(0);
            due("with 5 towers", x.tower(36), INVALID);
            due("with 5 towers", x.tower(-1), INVALID);
            due("still 5", x.count(5), 5);
        });
        Doc.says("LIMIT_REACHED if there would be 7.", x -> {
            for (int cell = 0; cell < CELLS; cell++) {
                if (x.cell(cell, 3) == 0) {
                    due("a seventh one on " + cell, x.tower(cell), LIMIT);
                }
            }
            due("6", x.count(5), 6);
            due("one of the 6 away", x.tower(35), 5);
            due("room for one", x.tower(34), 6);
            due("no more", x.tower(35), LIMIT);
        });
    }

    private static void cell() {
        Doc.section("Promise 6");
        Doc.says("Returns something of a cell.", x -> {
            int[] ofHopper = {0, HOPPER, 4, 0, 2};
            int[] ofRoller = {1, ROLLER, 4, 1, 0};
            for (int what = 0; what <= 4; what++) {
                due("of b1", x.cell(at("b1"), what), ofHopper[what]);
                due("of f6", x.cell(at("f6"), what), ofRoller[what]);
            }
        });
        Doc.says("- `cell`: 0 to 35", x -> {
            for (int what = 0; what <= 4; what++) {
                int asked = what;
                dueRange("cell", c -> x.cell(c, asked), 0, 35);
            }
        });
        Doc.says("- `what`: 0: the side of its piece;", x -> {
            due("of a1", x.cell(at("a1"), 0), 0);
            due("of a6", x.cell(at("a6"), 0), 1);
        });
        Doc.says("1: its kind;", x -> {
            for (int kind = 0; kind <= 4; kind++) {
                x.put(at("c4"), 1, kind, 1);
                due("of c4", x.cell(at("c4"), 1), kind);
            }
        });
        Doc.says("2: its spring;", x -> {
            for (int spring = 0; spring <= 9; spring++) {
                x.put(at("c4"), 1, ROLLER, spring);
                due("of c4", x.cell(at("c4"), 2), spring);
            }
        });
        Doc.says("3: 1 if it is a tower, otherwise 0;", x -> {
            due("with a piece", x.cell(at("a1"), 3), 1);
            due("without one", x.cell(at("c3"), 3), 1);
            due("no tower with a piece", x.cell(at("b1"), 3), 0);
            due("no tower without one", x.cell(at("c4"), 3), 0);
        });
        Doc.says("4: moves of its piece, as if its side were to move", x -> {
            due("of the side 0", x.cell(at("a2"), 4), 1);
            due("of the side 1", x.cell(at("a5"), 4), 1);
            due("none", x.cell(at("a1"), 4), 0);
            move(x, "a2a3");
            due("of the side 0, when 1 is to move", x.cell(at("a1"), 4), 1);
            ClockworkChess y = bare("0 roller a1 9", "1 crown c4 1", "0 hopper e2 1");
            due("10, most of a roller", y.cell(at("a1"), 4), 10);
            due("8, most of a crown", y.cell(at("c4"), 4), 8);
            due("too weak", y.cell(at("e2"), 4), 0);
            put(y, "0 roller a1 2");
            due("as far as the spring goes", y.cell(at("a1"), 4), 4);
            due("behind the end", crownTaken("1 crown c4 1").cell(at("c4"), 4), 8);
        });
        Doc.says("Returns the number;", x -> {
            x.put(at("c4"), 0, CROWN, 0);
            for (int what = 0; what <= 4; what++) {
                due("0", x.cell(at("c4"), what), 0);
            }
        });
        Doc.says("INVALID_ARGUMENT if an argument is out of range;", x -> {
            dueRange("of a piece", what -> x.cell(at("a1"), what), 0, 4);
            dueRange("of an empty cell", what -> x.cell(at("c4"), what), 0, 4);
            due("both", x.cell(36, 5), INVALID);
        });
        Doc.says("NOT_FOUND for 0, 1, 2 and 4 if it is empty.", x -> {
            for (int what = 0; what <= 4; what++) {
                due("of an empty cell", x.cell(at("c4"), what), what == 3 ? 0 : MISSING);
                due("of an empty tower", x.cell(at("c3"), what), what == 3 ? 1 : MISSING);
            }
            move(x, "a2a3");
            due("of a cell that was left", x.cell(at("a2"), 2), MISSING);
        });
    }

    // ---- count

    private static void countOfGame() {
        Doc.section("Promise 7");
        Doc.says("Returns a number.", x -> {
            int[] wanted = {0, 0, MISSING, 0, 24, 6, 48, 48, 0, 0, 9, 1, 2};
            for (int what = 0; what <= 12; what++) {
                due("count(" + what + ")", x.count(what), wanted[what]);
            }
        });
        Doc.says("- `what`: 0: the side that is to move;", x -> {
            due("at first", x.count(0), 0);
            move(x, "a2a3");
            due("behind a move", x.count(0), 1);
            move(x, "a5a4");
            due("behind two", x.count(0), 0);
            ClockworkChess y = bare();
            y.pass();
            due("behind a pass", y.count(0), 1);
            due("at the end", crownTaken().count(0), 0);
            due("at the end", over().count(0), 1);
        });
        Doc.says("1: 0 while the game goes on, 1 if a crown was taken, 2 if both sides passed;", x -> {
            due("goes on", x.count(1), 0);
            due("a crown", crownTaken().count(1), 1);
            ClockworkChess y = bare();
            y.pass();
            due("one side passed", y.count(1), 0);
            y.pass();
            due("both", y.count(1), 2);
            y.setUp();
            due("set up anew", y.count(1), 0);
        });
        Doc.says("2: the winner;", x -> {
            due("by a crown", crownTaken().count(2), 0);
            due("by springs", over("1 walker b1 1").count(2), 1);
            due("by springs", over("0 walker b6 1").count(2), 0);
        });
        Doc.says("3: moves and passes that were made;", x -> {
            due("none", x.count(3), 0);
            move(x, "a2a3");
            due("a move", x.count(3), 1);
            due("refused", move(x, "a3a4"), IMPOSSIBLE);
            due("still one", x.count(3), 1);
            write(x, "a5a4;b2b3;");
            x.play();
            due("and two by a text", x.count(3), 3);
            x.undo();
            due("these are taken back", x.count(3), 1);
            x.setUp();
            due("set up anew", x.count(3), 0);
            due("passes, the last one too", over().count(3), 2);
            due("the last move too", crownTaken().count(3), 1);
        });
        Doc.says("8: states in the history;", x -> {
            for (int change = 0; change <= 7; change++) {
                due("behind " + change, x.count(8), Math.min(5, change));
                x.tower(0);
            }
            x.undo();
            due("behind undo", x.count(8), 4);
        });
        Doc.says("9: the length of the text;", x -> {
            for (int length = 0; length < 80; length++) {
                due("length", x.count(9), length);
                x.type(' ');
            }
            x.type(' ');
            due("length", x.count(9), 80);
        });
        Doc.says("INVALID_ARGUMENT if what is out of range;", x -> {
            for (int what = 13; what <= 19; what++) {
                due("count(" + what + ")", x.count(what), INVALID);
            }
            for (int what : new int[] {-1, -4, 27, 28, 46, Integer.MIN_VALUE, Integer.MAX_VALUE}) {
                due("count(" + what + ")", x.count(what), INVALID);
            }
        });
        Doc.says("NOT_FOUND for 2 while the game goes on, or if none wins.", x -> {
            due("goes on", x.count(2), MISSING);
            due("none wins", over().count(2), MISSING);
            due("none wins", over("0 walker b6 2", "1 walker b1 2").count(2), MISSING);
            ClockworkChess y = crownTaken();
            y.setUp();
            due("goes on anew", y.count(2), MISSING);
        });
    }

    private static void countOfPieces() {
        Doc.says("4: pieces;", x -> {
            due("at first", x.count(4), 24);
            clear(x);
            due("none", x.count(4), 0);
            for (int cell = 0; cell < CELLS; cell++) {
                x.put(cell, cell % 2, CROWN, 0);
            }
            due("all", x.count(4), 36);
        });
        Doc.says("5: towers;", x -> {
            for (int gone = 0; gone <= 5; gone++) {
                due("towers", x.count(5), 6 - gone);
                x.tower(TOWERS[gone]);
            }
            due("none", x.count(5), 0);
        });
        Doc.says("6 and 7: the sum of springs of the sides 0 and 1;", x -> {
            clear(x);
            due("none", x.count(6) + x.count(7), 0);
            put(x, "0 roller a1 9", "0 slider f6 3", "1 hopper a6 5", "1 crown f1 2");
            due("of 0", x.count(6), 12);
            due("of 1", x.count(7), 7);
        });
        Doc.says("10 to 12: the settings;", x -> {
            x.set(0, 12);
            x.set(1, 5);
            x.set(2, 0);
            due("the limit", x.count(10), 12);
            due("the bonus", x.count(11), 5);
            due("the winding", x.count(12), 0);
        });
        Doc.says("20 to 26: the accounts 0 to 6", x -> {
            put(x, "1 walker a3 9");
            move(x, "b1a3");
            int[] wanted = {96, 4, 1, 2, 5, 103, 9};
            for (int account = 0; account <= 6; account++) {
                due("count(" + (20 + account) + ")", x.count(20 + account), wanted[account]);
            }
        });
        Doc.says("Returns the number;", x -> {
            for (int spring = 3; spring >= 0; spring--) {
                x.put(at("a1"), 0, ROLLER, spring);
                due("a number, if it is below 0, too", x.count(26), spring - 4);
            }
        });
    }

    private static void undo() {
        Doc.section("Promise 8");
        Doc.says("Restores the latest state of the history, which is removed from it.", x -> {
            put(x, "0 roller c4 1");
            put(x, "1 slider c4 2");
            x.undo();
            duePiece(x, "0 roller c4 1");
            due("one is left", x.count(8), 1);
            put(x, "1 hopper c4 3");
            due("two", x.count(8), 2);
            x.undo();
            duePiece(x, "0 roller c4 1");
            x.undo();
            dueEmpty(x, "c4");
            dueSetUp(x, 4);
            ClockworkChess y = crownTaken();
            y.undo();
            due("the game goes on", y.count(1), 0);
            due("its move", move(y, "a6b6"), 1);
        });
        Doc.says("Returns the number of states that are left in the history;", x -> {
            for (int change = 0; change < 9; change++) {
                x.tower(0);
            }
            for (int left = 4; left >= 0; left--) {
                due("undo()", x.undo(), left);
                due("states", x.count(8), left);
            }
        });
        Doc.says("NOT_POSSIBLE if it is empty.", x -> {
            due("at first", x.undo(), IMPOSSIBLE);
            x.tower(0);
            x.undo();
            due("behind the last one", x.undo(), IMPOSSIBLE);
            due("still", x.undo(), IMPOSSIBLE);
            due("none below 0", x.count(8), 0);
            dueSetUp(x, 4);
        });
    }
}
