import java.util.List;

/** What the document says under "Terms": a test for each sentence, or part of one. */
final class TermSentences extends Games {
    private TermSentences() {
    }

    static void run() {
        whatItIs();
        terms();
        board();
        kinds();
        moves();
        turns();
        ends();
        accounts();
        accountsOfPut();
        texts();
        faults();
    }

    private static void whatItIs() {
        Doc.section("What it is");
        Doc.says("An object is used for at most 512 calls after it has been made;", x -> {
            for (int call = 1; call < 511; call++) {
                due("put", x.put(at("c3"), 0, ROLLER, call % 10), call == 1 ? 0 : 1);
            }
            dueSpring(x, "c3", 0);
            due("the last call", x.count(8), 5);
        });
    }

    private static void terms() {
        Doc.section("Terms");
        Doc.says("All numbers are whole numbers; divisions are rounded down.", x -> {
            dueSpring(x, "a1", 4);
            x.set(0, 1);
            due("half of 1, 24 times", x.setUp(), 0);
            dueTaking(0, 1, 9, 4);
            dueTaking(0, 1, 1, 0);
        });
    }

    /** A roller takes a slider next to it and has a spring of so much then. */
    private static void dueTaking(int bonus, int spring, int taken, int left) {
        ClockworkChess x = bare("0 roller b2 " + spring, "1 slider c2 " + taken);
        x.set(1, bonus);
        due("the roller with " + spring + " takes " + taken, move(x, "b2c2"), 1);
        duePiece(x, "0 roller c2 " + left);
    }

    // ---- board

    private static void board() {
        Doc.section("Board");
        Doc.says("The board has the columns 0 to 5 and the rows 0 to 5; "
            + "the cell in the column x of the row y has the number 6 * y + x.", x -> {
            clear(x);
            for (int line = 0; line < 6; line++) {
                x.put(6 * line, 0, ROLLER, 9);
                due("along the row " + line, x.cost(6 * line, 6 * line + 5), 5);
                x.put(6 * line, -1, 0, 0);
                x.put(6 * line + 5, 0, CROWN, 9);
                due("not around the border", x.cell(6 * line + 5, 4), line % 5 == 0 ? 3 : 5);
                x.put(6 * line + 5, -1, 0, 0);
                x.put(line, 0, ROLLER, 9);
                due("along the column " + line, x.cost(line, 30 + line), 5);
                x.put(line, -1, 0, 0);
            }
            due("below the first cell", x.cell(-1, 3), INVALID);
            due("above the last cell", x.cell(36, 3), INVALID);
        });
        Doc.says("There are two sides, 0 and 1; the side 0 goes up (to greater rows), "
            + "the side 1 down.", x -> {
            clear(x);
            put(x, "0 walker c2 9", "1 walker e5 9");
            dueGoes(x, "c2", "c3=1");
            dueGoes(x, "e5", "e4=1");
            dueRange("moves", x::moves, 0, 1);
        });
        Doc.says("A cell has at most one piece.", x -> {
            for (int cell = 0; cell < CELLS; cell++) {
                x.put(cell, 0, WALKER, 1);
            }
            due("as many pieces as cells", x.count(4), 36);
            put(x, "1 crown a1 2");
            due("no more of them", x.count(4), 36);
            duePiece(x, "1 crown a1 2");
            ClockworkChess y = bare("0 roller b2 5", "1 slider d2 5");
            move(y, "b2d2");
            due("one is taken", y.count(4), 1);
        });
        Doc.says("A piece has a side, a kind and a spring, from 0 to the limit "
            + "(a setting, 1 to 12, initially 9).", x -> {
            due("the limit", x.count(10), 9);
            for (int limit = 1; limit <= 12; limit++) {
                x.set(0, limit);
                put(x, "1 slider c4 " + limit);
                duePiece(x, "1 slider c4 " + limit);
                due("above the limit", x.put(at("c4"), 1, SLIDER, limit + 1), INVALID);
            }
            put(x, "0 hopper c4 0");
            duePiece(x, "0 hopper c4 0");
            due("below 0", x.put(at("c4"), 0, HOPPER, -1), INVALID);
        });
        Doc.says("There are at most 6 towers, each a cell.", x -> {
            due("towers", x.count(5), 6);
            due("a seventh one", x.tower(at("b2")), LIMIT);
            dueRange("tower", x::tower, 0, 35);
            for (String cell : new String[] {"c3", "d4", "a6", "f1"}) {
                x.tower(at(cell));
            }
            due("none", x.count(5), 0);
        });
        setUp();
    }

    private static void setUp() {
        Doc.says("At first, and when a game is set up anew, the side 0 has in the row 0, from the "
            + "column 0 on: roller, hopper, crown, slider, hopper, roller, and walkers in the row 1; "
            + "the side 1 has the same kinds in the same columns in the rows 5 and 4.", x -> {
            dueBoardSetUp(x, 4);
            clear(x);
            put(x, "0 crown c4 3", "1 slider b3 2");
            x.setUp();
            dueBoardSetUp(x, 4);
        });
        Doc.says("All springs are half of the limit;", x -> {
            for (int limit = 1; limit <= 12; limit++) {
                x.set(0, limit);
                due("springs of the limit " + limit, x.setUp(), 24 * (limit / 2));
                dueSpring(x, "a1", limit / 2);
                dueSpring(x, "f6", limit / 2);
            }
        });
        Doc.says("the towers are 0, 5, 14, 21, 30 and 35;", x -> {
            List<Integer> towers = List.of(0, 5, 14, 21, 30, 35);
            dueTowers(x, towers);
            for (int cell : towers) {
                x.tower(cell);
            }
            x.tower(7);
            x.setUp();
            dueTowers(x, towers);
            due("towers", x.count(5), 6);
        });
        Doc.says("the side 0 begins.", x -> {
            due("at first", x.count(0), 0);
            due("its move", move(x, "a2a3"), 1);
            due("then the side 1", x.count(0), 1);
            x.setUp();
            due("set up anew", x.count(0), 0);
            due("not the side 1", refusal(x, "a5a4"), 4);
            due("its move", move(x, "a2a3"), 1);
        });
    }

    // ---- moves

    /** Where a piece of the side 0 goes, alone on the board. */
    private static void dueAlone(ClockworkChess x, String kind, String cell, String ways) {
        put(x, "0 " + kind + " " + cell + " 9");
        dueGoes(x, cell, ways);
        empty(x, cell);
    }

    private static void kinds() {
        Doc.section("Moves");
        Doc.says("The kinds are 0 crown: one step in one of the eight directions, cost 1;", x -> {
            clear(x);
            dueAlone(x, "crown", "c4", "b3=1 c3=1 d3=1 b4=1 d4=1 b5=1 c5=1 d5=1");
            dueAlone(x, "crown", "a1", "b1=1 a2=1 b2=1");
            dueAlone(x, "crown", "f1", "e1=1 e2=1 f2=1");
            dueAlone(x, "crown", "a6", "a5=1 b5=1 b6=1");
            dueAlone(x, "crown", "f6", "e5=1 f5=1 e6=1");
            dueAlone(x, "crown", "a3", "a2=1 b2=1 b3=1 a4=1 b4=1");
            dueAlone(x, "crown", "f3", "e2=1 f2=1 e3=1 e4=1 f4=1");
        });
        Doc.says("1 roller: along a row or a column over empty cells, cost the number of steps;", x -> {
            clear(x);
            dueAlone(x, "roller", "a1", "b1=1 c1=2 d1=3 e1=4 f1=5 a2=1 a3=2 a4=3 a5=4 a6=5");
            dueAlone(x, "roller", "f2", "a2=5 b2=4 c2=3 d2=2 e2=1 f1=1 f3=1 f4=2 f5=3 f6=4");
            dueAlone(x, "roller", "c4", "c1=3 c2=2 c3=1 a4=2 b4=1 d4=1 e4=2 f4=3 c5=1 c6=2");
            put(x, "0 roller c3 9", "1 walker c5 1", "0 walker e3 1", "1 walker b3 1", "0 walker c2 1");
            dueGoes(x, "c3", "c4=1 c5=2 d3=1 b3=1");
        });
        Doc.says("2 slider: the same along a diagonal;", x -> {
            clear(x);
            dueAlone(x, "slider", "a1", "b2=1 c3=2 d4=3 e5=4 f6=5");
            dueAlone(x, "slider", "f1", "e2=1 d3=2 c4=3 b5=4 a6=5");
            dueAlone(x, "slider", "f3", "e2=1 d1=2 e4=1 d5=2 c6=3");
            dueAlone(x, "slider", "c3", "b2=1 a1=2 d2=1 e1=2 b4=1 a5=2 d4=1 e5=2 f6=3");
            put(x, "0 slider c3 9", "1 walker e5 1", "0 walker d2 1", "1 walker b4 1", "0 walker a1 1");
            dueGoes(x, "c3", "d4=1 e5=2 b4=1 b2=1");
        });
        Doc.says("3 hopper: two cells along a row or a column and one across, "
            + "over whatever is there, cost 2;", x -> {
            clear(x);
            dueAlone(x, "hopper", "c3", "b1=2 d1=2 a2=2 e2=2 a4=2 e4=2 b5=2 d5=2");
            dueAlone(x, "hopper", "a1", "b3=2 c2=2");
            dueAlone(x, "hopper", "f1", "e3=2 d2=2");
            dueAlone(x, "hopper", "a6", "b4=2 c5=2");
            dueAlone(x, "hopper", "f6", "e4=2 d5=2");
            dueAlone(x, "hopper", "a3", "b1=2 c2=2 c4=2 b5=2");
            dueAlone(x, "hopper", "f4", "e2=2 d3=2 d5=2 e6=2");
            put(x, "0 hopper c3 9", "0 walker b2 1", "1 walker c2 1", "0 walker d2 1", "1 walker b3 1",
                "0 walker d3 1", "1 walker b4 1", "0 walker c4 1", "1 walker d4 1", "0 walker c5 1",
                "1 walker e3 1", "0 walker d5 1", "1 walker e4 1");
            dueGoes(x, "c3", "b1=2 d1=2 a2=2 e2=2 a4=2 e4=2 b5=2");
        });
        Doc.says("4 walker: one step ahead to an empty cell, or one step diagonally ahead to a cell "
            + "with a piece of the other side, cost 1.", x -> {
            clear(x);
            dueAlone(x, "walker", "c2", "c3=1");
            dueAlone(x, "walker", "c6", "");
            put(x, "0 walker a3 9", "1 walker b4 1", "1 walker f3 1", "1 walker b2 1", "1 walker b3 1");
            dueGoes(x, "a3", "a4=1 b4=1");
            put(x, "0 walker f2 9", "1 walker a4 1", "1 walker a3 1", "0 walker e3 1");
            dueGoes(x, "f2", "");
            put(x, "1 walker e6 9", "0 walker d5 1", "0 walker f5 1", "1 walker c1 1");
            dueGoes(x, "e6", "d5=1 e5=1 f5=1");
            dueGoes(x, "c1", "");
        });
    }

    private static void moves() {
        Doc.says("A move ends on an empty cell, or takes the piece of the other side that is there "
            + "(but a walker that goes straight ahead takes nothing).", x -> {
            clear(x);
            put(x, "0 roller b2 5", "0 slider b4 3", "1 slider d2 5", "0 walker e4 3", "1 crown e5 1");
            due("not on an own piece", move(x, "b2b4"), IMPOSSIBLE);
            due("a walker straight ahead", move(x, "e4e5"), IMPOSSIBLE);
            due("on an empty cell", move(x, "b2c2"), 1);
            due("no piece less", x.count(4), 5);
            x.undo();
            due("on another piece", move(x, "b2d2"), 2);
            due("a piece less", x.count(4), 4);
            dueEmpty(x, "b2");
            due("it is there", x.cell(at("d2"), 1), ROLLER);
        });
        Doc.says("It is possible only if the spring of the piece is at least the cost, "
            + "which it loses.", x -> {
            dueCost("crown", "b2c3", 1);
            dueCost("roller", "a2f2", 5);
            dueCost("slider", "b1f5", 4);
            dueCost("hopper", "b2c4", 2);
            dueCost("walker", "b2b3", 1);
        });
        Doc.says("A piece that takes another one gains half of its spring and the bonus (a setting, "
            + "0 to 5, initially 1), but not above the limit; what is above it is lost.", x -> {
            due("the bonus", x.count(11), 1);
            dueTaking(1, 1, 0, 1);
            dueTaking(1, 1, 1, 1);
            dueTaking(1, 1, 2, 2);
            dueTaking(1, 1, 9, 5);
            dueTaking(0, 1, 0, 0);
            dueTaking(0, 1, 3, 1);
            dueTaking(5, 1, 0, 5);
            dueTaking(5, 1, 7, 8);
            dueTaking(1, 4, 9, 8);
            dueTaking(1, 5, 9, 9);
            dueTaking(1, 6, 9, 9);
            dueTaking(5, 9, 9, 9);
        });
        promotion();
        Doc.says("Moves of a side are listed by the cells from which, ascending, "
            + "then by the cells to which.", x -> {
            clear(x);
            put(x, "0 roller f4 1", "0 hopper b1 2", "0 walker a2 1", "1 walker b3 1");
            dueList(x, 0, told("b1d2"), told("b1a3"), told("b1c3"), told("a2a3"), told("a2b3"),
                told("f4f3"), told("f4e4"), told("f4f5"));
            dueList(x, 1, told("b3a2"), told("b3b2"));
        });
        Doc.says("What is told as if a side were to move goes by the board as it is, "
            + "also when the game is over.", x -> {
            ClockworkChess y = bare("1 roller f1 0", "0 roller c3 0");
            due("not as if it were wound", y.moves(1), 0);
            due("nor the side that is to move", y.cell(at("c3"), 4), 0);
            y = crownTaken("0 roller c2 1", "1 roller f1 0", "1 walker d5 1");
            due("moves(0)", y.moves(0), 9);
            due("moves(1)", y.moves(1), 1);
            due("listed(1, 0)", y.listed(1, 0), told("d5d4"));
            due("moves of c2", y.cell(at("c2"), 4), 4);
            due("moves of f1", y.cell(at("f1"), 4), 0);
            due("struck", y.struck(at("d2"), 0), 1);
            due("reach", y.reach(at("c2"), 12), 5);
            due("cost", y.cost(at("c2"), at("c3")), 1);
        });
    }

    private static void dueCost(String kind, String move, int cost) {
        String cell = move.substring(0, 2);
        ClockworkChess x = bare("0 " + kind + " " + cell + " " + (cost - 1));
        due("too weak for " + move, refusal(x, move), 7);
        due("refused " + move, move(x, move), IMPOSSIBLE);
        put(x, "0 " + kind + " " + cell + " " + cost);
        due("just enough for " + move, move(x, move), cost);
        duePiece(x, "0 " + kind + " " + move.substring(2) + " 0");
        put(x, "0 " + kind + " " + cell + " 9");
    }

    private static void promotion() {
        Doc.says("A walker that comes to the last row ahead by a move becomes a roller.", x -> {
            clear(x);
            put(x, "0 walker b5 3", "0 walker a4 3", "1 walker c2 3", "1 walker e6 3");
            move(x, "b5b6");
            duePiece(x, "0 roller b6 2");
            move(x, "c2c1");
            duePiece(x, "1 roller c1 2");
            move(x, "a4a5");
            duePiece(x, "0 walker a5 2");
            move(x, "e6e5");
            duePiece(x, "1 walker e5 2");
            empty(x, "b6");
            put(x, "1 hopper b6 4");
            move(x, "a5b6");
            duePiece(x, "0 roller b6 4");
            put(x, "1 walker b2 1", "0 crown a1 2");
            move(x, "b2a1");
            duePiece(x, "1 roller a1 2");
            due("that took a crown", x.count(1), 1);
        });
        Doc.says("A walker that comes to the last row ahead by a move", x -> {
            clear(x);
            put(x, "0 walker b6 3", "1 walker c1 3", "0 crown e5 3");
            duePiece(x, "0 walker b6 3");
            duePiece(x, "1 walker c1 3");
            move(x, "e5e6");
            duePiece(x, "0 crown e6 2");
        });
    }

    // ---- turns

    private static void turns() {
        Doc.section("Turns");
        Doc.says("At the beginning of a side's turn (but not when the game is set up), each of its "
            + "pieces on a tower is wound by the winding (a setting, 0 to 5, initially 2), "
            + "up to the limit.", x -> {
            due("the winding", x.count(12), 2);
            dueSpring(x, "a1", 4);
            x.setUp();
            dueSpring(x, "a1", 4);
            clear(x);
            put(x, "1 roller a1 0", "1 walker f1 7", "1 slider c3 8", "1 crown d4 9", "1 hopper b1 3",
                "0 crown a6 1", "0 crown e3 2");
            move(x, "e3e2");
            dueSpring(x, "a1", 2);
            dueSpring(x, "f1", 9);
            dueSpring(x, "c3", 9);
            dueSpring(x, "d4", 9);
            dueSpring(x, "b1", 3);
            dueSpring(x, "a6", 1);
            x.set(2, 5);
            move(x, "b1d2");
            dueSpring(x, "a6", 6);
            dueSpring(x, "a1", 2);
            move(x, "e2d2");
            dueSpring(x, "a1", 7);
            x.set(2, 0);
            move(x, "d4e5");
            dueSpring(x, "a6", 6);
            ClockworkChess y = bare("1 roller a1 0");
            y.pass();
            dueSpring(y, "a1", 2);
        });
        Doc.says("Behind a move or pass that ends the game no turn begins, "
            + "and the side that is told as to move stays.", x -> {
            ClockworkChess y = crownTaken("1 roller a1 3", "0 roller f1 3");
            dueSpring(y, "a1", 3);
            dueSpring(y, "f1", 3);
            due("wound", y.count(21), 0);
            due("mover", y.count(0), 0);
            y = bare("1 crown b2 2", "0 crown b3 0", "0 roller d4 0");
            y.pass();
            due("the side 1 takes a crown", move(y, "b2b3"), 1);
            due("mover", y.count(0), 1);
            dueSpring(y, "d4", 0);
            y = over("0 walker a6 1");
            due("mover", y.count(0), 1);
            dueSpring(y, "a6", 1);
        });
        Doc.says("Then the side makes one move.", x -> {
            due("one", move(x, "a2a3"), 1);
            due("not another one", move(x, "b2b3"), IMPOSSIBLE);
            due("the other side then", move(x, "b5b4"), 1);
            due("and this one again", move(x, "b2b3"), 1);
        });
        Doc.says("If it has none, it passes by a call.", x -> {
            clear(x);
            put(x, "1 crown b2 5");
            due("not by itself", x.count(0), 0);
            due("pass()", x.pass(), 0);
            due("mover", x.count(0), 1);
            due("it has a move", x.pass(), IMPOSSIBLE);
            move(x, "b2b3");
            due("not by itself", x.count(0), 0);
            due("made", x.count(3), 2);
        });
    }

    private static void ends() {
        Doc.says("The game is over if a crown is taken, also one of several "
            + "(the side that took it wins),", x -> {
            clear(x);
            put(x, "0 roller b2 1", "1 crown c2 0", "1 crown e5 9", "1 crown e1 9");
            due("goes on", x.count(1), 0);
            move(x, "b2c2");
            due("over", x.count(1), 1);
            due("won, with the lesser sum", x.count(2), 0);
            x.undo();
            empty(x, "e1");
            due("none is taken by put", x.count(1), 0);
            ClockworkChess y = bare("0 crown b2 0", "1 walker c3 1");
            y.pass();
            move(y, "c3b2");
            due("over", y.count(1), 1);
            due("won by the side 1", y.count(2), 1);
        });
        Doc.says("or if both sides pass one after the other:", x -> {
            clear(x);
            put(x, "1 crown b2 1");
            due("pass of 0", x.pass(), 0);
            due("move of 1", move(x, "b2b3"), 1);
            due("pass of 0 behind a move", x.pass(), 0);
            due("goes on", x.count(1), 0);
            due("pass of 1", x.pass(), 1);
            due("over", x.count(1), 2);
            ClockworkChess y = bare("0 walker b2 1");
            move(y, "b2b3");
            due("pass of 1 ahead of 0", y.pass(), 0);
            due("pass of 0", y.pass(), 1);
            due("over", y.count(1), 2);
            y = bare();
            y.pass();
            y.setUp();
            clear(y);
            due("a pass in the game before does not count", y.pass(), 0);
            // What is set up between them is no move of a side.
            put(y, "1 walker b1 3");
            y.tower(0);
            y.set(1, 0);
            due("pass of 1 behind the one of 0", y.pass(), 1);
        });
        Doc.says("then the side with the greater sum of springs wins, or none.", x -> {
            due("3 and 2", over("0 walker b6 3", "1 walker b1 2").count(2), 0);
            due("2 and 3", over("0 walker b6 2", "1 walker b1 3").count(2), 1);
            due("3 and 3", over("0 walker b6 3", "1 walker b1 3").count(2), MISSING);
            due("1 + 3 and 3", over("0 walker b6 1", "0 walker c6 3", "1 walker b1 3").count(2), 0);
            due("0 and none", over("0 walker b6 0").count(2), MISSING);
            due("none and none", over().count(2), MISSING);
            due("with what was wound", over("0 walker b6 1", "1 walker f1 0").count(2), 1);
            ClockworkChess y = over("0 walker b6 3", "1 walker b1 2");
            y.set(0, 1);
            due("the sums are the same later on", y.count(6), y.count(7));
            due("but the game is won", y.count(2), 0);
        });
    }

    // ---- accounts

    private static void accounts() {
        Doc.section("Accounts");
        Doc.says("The accounts of turns, since the game was set up, are", x -> {
            put(x, "1 walker a3 9");
            due("takes", move(x, "b1a3"), 2);
            dueAccounts(x, 96, 4, 1, 2, 5, 103, 9);
            x.setUp();
            dueAccounts(x, 96, 0, 0, 0, 0, 96, 0);
        });
        Doc.says("0 those of all pieces at the beginning,", x -> {
            put(x, "0 crown c4 9");
            move(x, "a2a3");
            x.set(0, 12);
            due("stays", x.count(20), 96);
            x.setUp();
            due("of the limit 12", x.count(20), 144);
            x.set(0, 1);
            due("stays", x.count(20), 144);
            x.setUp();
            due("of the limit 1", x.count(20), 0);
        });
        Doc.says("1 wound,", x -> {
            clear(x);
            put(x, "1 roller a1 8", "1 walker f1 9", "1 crown c3 0", "0 crown b4 9", "0 walker d4 0");
            due("at first", x.count(21), 0);
            move(x, "b4b5");
            due("1 up to the limit, 0 and 2", x.count(21), 3);
            move(x, "c3c4");
            due("2 more for the side 0", x.count(21), 5);
            x.set(2, 0);
            move(x, "b5b4");
            due("by 0", x.count(21), 5);
        });
        Doc.says("2 gained by the bonus,", x -> {
            clear(x);
            put(x, "0 roller b2 5", "1 walker c2 0", "1 roller e5 5", "0 walker e4 0", "1 walker d2 4");
            move(x, "b2c2");
            due("1", x.count(22), 1);
            x.set(1, 5);
            move(x, "e5e4");
            due("and 5", x.count(22), 6);
            x.set(1, 0);
            move(x, "c2d2");
            due("and 0", x.count(22), 6);
        });
        Doc.says("3 spent by moves,", x -> {
            due("none", x.count(23), 0);
            move(x, "b1c3");
            due("2", x.count(23), 2);
            move(x, "a5a4");
            due("and 1", x.count(23), 3);
            due("refused", move(x, "a4a3"), IMPOSSIBLE);
            due("no more", x.count(23), 3);
            due("none by passes", over().count(23), 0);
        });
        Doc.says("4 lost with taken pieces (what was not gained of their springs, "
            + "and what was above the limit),", x -> {
            dueLost(1, 1, 0, 0);
            dueLost(1, 1, 1, 1);
            dueLost(1, 1, 2, 1);
            dueLost(1, 5, 9, 5);
            dueLost(1, 6, 9, 6);
            dueLost(1, 9, 9, 9);
            dueLost(0, 9, 2, 1);
            dueLost(0, 9, 4, 3);
        });
        Doc.says("5 in the springs now,", x -> {
            due("at first", x.count(25), 96);
            move(x, "b1a3");
            due("2 less and 4 more", x.count(25), 98);
            put(x, "1 roller c4 9");
            due("9 more", x.count(25), 107);
            due("none", over().count(25), 0);
        });
    }

    private static void dueLost(int bonus, int spring, int taken, int lost) {
        ClockworkChess x = bare("0 roller b2 " + spring, "1 slider c2 " + taken);
        x.set(1, bonus);
        move(x, "b2c2");
        due("lost, " + spring + " taking " + taken + " and " + bonus, x.count(24), lost);
        due("the bonus counts in full", x.count(22), bonus);
        dueBalance(x);
    }

    private static void accountsOfPut() {
        Doc.says("6 put on or taken off by put (the sum of springs that it made more, "
            + "minus those that it made less).", x -> {
            due("at first", x.count(26), 0);
            put(x, "0 crown c4 7");
            due("more", x.count(26), 7);
            put(x, "1 slider c4 2");
            due("less", x.count(26), 2);
            put(x, "1 slider c4 2");
            due("the same", x.count(26), 2);
            empty(x, "c4");
            due("taken off", x.count(26), 0);
            empty(x, "a1");
            due("below 0", x.count(26), -4);
            due("nothing there", x.put(at("a1"), -1, WALKER, 9), 0);
            due("an empty cell has no spring", x.count(26), -4);
            x.set(0, 3);
            due("cut as by put", x.count(26), -4 - 23);
        });
        Doc.says("0 + 1 + 2 + 6 is 3 + 4 + 5.", x -> {
            put(x, "1 walker a3 9", "0 walker b4 3");
            for (String move : new String[] {"b1a3", "a5b4", "a3b5", "a6a2", "c2c3", "b6c4"}) {
                Check.holds(move, move(x, move) > 0);
                dueBalance(x);
            }
            x.set(0, 2);
            dueBalance(x);
            x.undo();
            dueBalance(x);
            x.setUp();
            dueBalance(x);
        });
        Doc.says("(The bonus counts as gained in full; what of it is above the limit is lost.)", x -> {
            clear(x);
            x.set(1, 5);
            put(x, "0 roller b2 9", "1 slider c2 0", "1 slider c3 1");
            move(x, "b2c2");
            dueSpring(x, "c2", 9);
            due("gained", x.count(22), 5);
            due("lost", x.count(24), 4);
        });
    }

    // ---- texts

    private static void texts() {
        Doc.section("Texts");
        Doc.says("There is a text of at most 80 characters, initially empty:", x -> {
            due("empty", x.count(9), 0);
            for (int length = 1; length <= 80; length++) {
                due("type()", x.type('a'), length);
            }
            due("full", x.type('a'), LIMIT);
            due("length", x.count(9), 80);
        });
        Doc.says("moves, each followed by \";\":", x -> {
            dueNoFault(x, "a2a3;");
            dueNoFault(x, "a2a3;a5a4;");
            dueFault(x, "a2a3", 0, 1);
            dueFault(x, "a2a3;a5a4", 5, 1);
            dueFault(x, "a2a3a5a4;", 0, 1);
            dueFault(x, "a2a3,a5a4;", 0, 1);
            dueFault(x, "a2a3;;a5a4;", 5, 1);
            dueFault(x, "a2a3; a5a4;", 5, 1);
            dueFault(x, ";a2a3;", 0, 1);
            dueFault(x, "a2a3;a5a4;b", 10, 1);
        });
        Doc.says("a column \"a\" to \"f\" and a row \"1\" to \"6\" from which, "
            + "and likewise to which.", x -> {
            dueFault(x, "a1f6;", 0, 6);
            dueFault(x, "f6a1;", 0, 4);
            dueFault(x, "a6f1;", 0, 4);
            dueFault(x, "f1a6;", 0, 6);
            String[] wrong = {"`1a2;", "g1a2;", "A1a2;", "a0a2;", "a7a2;", "a1`2;", "a1g2;", "a1A2;",
                "a1a0;", "a1a7;", "1aa2;", "a12a;", "aaaa;", "1111;", "a1a22;"};
            for (String text : wrong) {
                dueFault(x, text, 0, 1);
            }
        });
        Doc.says("\"-\" followed by \";\" is a pass.", x -> {
            clear(x);
            dueNoFault(x, "-;");
            dueNoFault(x, "-;-;");
            String[] wrong = {"-", "--;", "- ;", "-a1a2;", "+;", "a1-;"};
            for (String text : wrong) {
                dueFault(x, text, 0, 1);
            }
            dueFault(x, "-;-", 2, 1);
            write(x, "-;");
            due("play()", x.play(), 1);
            due("it has passed", x.count(0), 1);
            due("and does so again", x.pass(), 1);
        });
    }

    private static void faults() {
        Doc.says("The fault of the text, for the game as it is now, is the position, from 0, of the "
            + "first character of the first move that is not possible;", x -> {
            dueFault(x, "b2b4;", 0, 6);
            dueFault(x, "a2a3;b2b3;c9;", 5, 4);
            dueFault(x, "a2a3;c9;b2b3;", 5, 1);
            dueNoFault(x, "a2a3;");
            move(x, "a2a3");
            due("as it is now", x.fault(0), 0);
            due("no piece there now", x.fault(1), 3);
            x.undo();
            due("as it was before", x.fault(0), MISSING);
        });
        Doc.says("The fault of the text", x -> {
            String text = "b2b3;e5e4;b3b2;e4e5;".repeat(4);
            ClockworkChess y = bare();
            y.set(0, 12);
            put(y, "0 crown b2 12", "1 crown e5 12");
            dueNoFault(y, text);
            dueFault(y, text.substring(0, 75) + "b2b3;", 75, 4);
            dueFault(y, text.substring(0, 79) + ":", 75, 1);
            dueFault(y, text.substring(0, 79), 75, 1);
        });
        Doc.says("its reason is 1 if it is not of this form,", x -> {
            dueFault(x, "a2a3;~", 5, 1);
            dueFault(x, " ", 0, 1);
            ClockworkChess y = over();
            dueFault(y, "a2a", 0, 1);
            dueFault(y, "a2a3", 0, 1);
            dueFault(y, "--;", 0, 1);
        });
        Doc.says("and otherwise that of refusal for it at that time,", x -> {
            dueFault(x, "a2a3;d4d5;", 5, 3);
            dueFault(x, "a2a3;b2b3;", 5, 4);
            dueFault(x, "a2a3;a6a5;", 5, 5);
            dueFault(x, "a2a3;a6a6;", 5, 5);
            dueFault(x, "a2a3;a5a3;", 5, 6);
            dueFault(x, "a2a3;a5a4;a3a4;", 10, 6);
            dueFault(x, "a2a3;a5a4;a2a3;", 10, 3);
            ClockworkChess y = bare("0 crown b2 1", "1 crown e5 9");
            dueFault(y, "b2b3;e5e4;b3b2;", 10, 7);
            put(y, "1 crown c2 1");
            dueFault(y, "b2c2;e5e4;", 5, 2);
        });
        Doc.says("where a pass has the reason 2 if the game is over,", x -> {
            clear(x);
            dueFault(x, "-;-;-;", 4, 2);
            x.pass();
            x.pass();
            dueFault(x, "-;", 0, 2);
            dueFault(crownTaken(), "-;", 0, 2);
        });
        Doc.says("and 8 if the side has a move.", x -> {
            dueFault(x, "-;", 0, 8);
            dueFault(x, "a2a3;-;", 5, 8);
            ClockworkChess y = bare("1 roller a1 0");
            dueFault(y, "-;-;", 2, 8);
        });
    }
}
