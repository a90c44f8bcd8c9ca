/** Promises 9 to 18, moves: a test for each sentence, or part of one. */
final class MoveSentences extends Games {
    private MoveSentences() {
    }

    static void run() {
        move();
        pass();
        refusal();
        cost();
        moves();
        listed();
        struck();
        reach();
        reachWithNothing();
        replies();
        best();
    }

    private static void move() {
        Doc.section("Promise 9");
        Doc.says("Makes a move for the side that is to move.", x -> {
            move(x, "a2a3");
            dueEmpty(x, "a2");
            duePiece(x, "0 walker a3 3");
            due("mover", x.count(0), 1);
            due("made", x.count(3), 1);
            move(x, "b6c4");
            dueEmpty(x, "b6");
            duePiece(x, "1 hopper c4 2");
            due("mover", x.count(0), 0);
            due("made", x.count(3), 2);
        });
        Doc.says("- `from`: 0 to 35", x -> dueRange("move", c -> x.move(c, 12), 0, 35));
        Doc.says("- `to`: 0 to 35", x -> dueRange("move", c -> x.move(6, c), 0, 35));
        Doc.says("Returns the cost;", x -> {
            due("of a walker", move(x, "a2a3"), 1);
            due("of a hopper", move(x, "b6c4"), 2);
            ClockworkChess y = bare("0 roller a1 9", "1 slider a6 9");
            due("of a roller", move(y, "a1f1"), 5);
            due("of a slider", move(y, "a6d3"), 3);
            due("of a taking one", move(bare("0 crown b2 1", "1 crown c3 9"), "b2c3"), 1);
        });
        Doc.says("INVALID_ARGUMENT if an argument is out of range;", x -> {
            for (int wrong : WRONG_CELLS) {
                due("both", x.move(wrong, wrong), INVALID);
                due("from", x.move(wrong, 12), INVALID);
                due("to", x.move(6, wrong), INVALID);
            }
            dueSetUp(x, 4);
        });
        Doc.says("NOT_POSSIBLE if refusal() is not 0.", x -> {
            put(x, "0 walker b2 0", "0 crown c4 0");
            String[] wrong = {"d4d5", "a5a4", "a1a2", "a2a2", "a2a4", "b2b3", "c4c3"};
            int[] reasons = {3, 4, 5, 5, 6, 7, 7};
            for (int index = 0; index < wrong.length; index++) {
                due("refusal of " + wrong[index], refusal(x, wrong[index]), reasons[index]);
                due("move " + wrong[index], move(x, wrong[index]), IMPOSSIBLE);
            }
            due("none was made", x.count(3), 0);
            due("its turn still", x.count(0), 0);
            ClockworkChess y = crownTaken();
            due("behind the end", y.refusal(at("b6"), at("b5")), 2);
            due("behind the end", move(y, "b6b5"), IMPOSSIBLE);
        });
    }

    private static void pass() {
        Doc.section("Promise 10");
        Doc.says("Passes, for the side that is to move.", x -> {
            clear(x);
            put(x, "1 crown a1 0", "0 slider f1 0");
            x.pass();
            due("mover", x.count(0), 1);
            due("made", x.count(3), 1);
            dueSpring(x, "a1", 2);
            dueSpring(x, "f1", 0);
            move(x, "a1b2");
            due("wound, so it has a move", x.pass(), IMPOSSIBLE);
            move(x, "f1e2");
            put(x, "1 crown b2 0");
            due("pass of 1", x.pass(), 0);
            due("mover", x.count(0), 0);
        });
        Doc.says("Returns 1 if the game is over then, otherwise 0;", x -> {
            clear(x);
            due("first pass", x.pass(), 0);
            due("goes on", x.count(1), 0);
            due("second pass", x.pass(), 1);
            due("over", x.count(1), 2);
        });
        Doc.says("NOT_POSSIBLE if the game is over, or the side has a move.", x -> {
            due("many moves", x.pass(), IMPOSSIBLE);
            due("behind passes", over().pass(), IMPOSSIBLE);
            due("behind a taken crown", crownTaken().pass(), IMPOSSIBLE);
            ClockworkChess y = bare("0 walker b5 1", "0 hopper e4 1", "1 roller b2 9");
            due("one move", y.pass(), IMPOSSIBLE);
            empty(y, "b5");
            due("none, whatever the other side has", y.pass(), 0);
            due("the other side has moves", y.pass(), IMPOSSIBLE);
            ClockworkChess z = bare("0 walker b2 9", "1 walker b3 9");
            due("in the way of one another", z.pass(), 0);
            due("in the way of one another", z.pass(), 1);
        });
    }

    // ---- refusal and cost

    private static void refusal() {
        Doc.section("Promise 11");
        Doc.says("Tells why a move is not possible.", x -> {
            due("refusal", refusal(x, "a2a4"), 6);
            due("nothing is made", x.count(3), 0);
            dueSetUp(x, 4);
        });
        Doc.says("- `from`: 0 to 35", x -> dueRange("refusal", c -> x.refusal(c, 12), 0, 35));
        Doc.says("- `to`: 0 to 35", x -> dueRange("refusal", c -> x.refusal(6, c), 0, 35));
        Doc.says("Returns 0 if it is possible,", x -> {
            due("of the side 0", refusal(x, "a2a3"), 0);
            move(x, "a2a3");
            due("of the side 1", refusal(x, "b6c4"), 0);
            due("taking", refusal(bare("0 crown b2 1", "1 crown c3 0"), "b2c3"), 0);
        });
        Doc.says("otherwise the first of these reasons:", x -> {
            due("3 rather than 5", refusal(x, "c4a1"), 3);
            due("3 rather than 5, itself", refusal(x, "c4c4"), 3);
            due("4 rather than 5", refusal(x, "a5a1"), 4);
            due("4 rather than 5, itself", refusal(x, "a5a5"), 4);
            due("4 rather than 6", refusal(x, "a5c3"), 4);
            due("5 rather than 6", refusal(x, "a2f1"), 5);
            put(x, "0 hopper c4 0", "1 hopper d5 0");
            due("4 rather than 7", refusal(x, "d5b4"), 4);
            due("5 rather than 7", refusal(x, "c4b2"), 5);
            due("6 rather than 7", refusal(x, "c4c5"), 6);
            ClockworkChess y = crownTaken("0 hopper c3 0", "0 walker e4 1", "1 walker b3 1");
            String[] all = {"a1a2", "b3b2", "c3e4", "c3c3", "c3c4", "c3d5", "e4e5"};
            for (String move : all) {
                due("2 rather than any, " + move, refusal(y, move), 2);
            }
        });
        Doc.says("2 the game is over;", x -> {
            due("behind a taken crown", refusal(crownTaken(), "b6b5"), 2);
            due("behind passes", refusal(over(), "b6b5"), 2);
            ClockworkChess y = crownTaken();
            y.undo();
            due("it goes on", refusal(y, "a6b6"), 0);
        });
        Doc.says("3 there is no piece;", x -> {
            due("none yet", refusal(x, "c4c5"), 3);
            move(x, "a2a3");
            due("none any more", refusal(x, "a2a3"), 3);
        });
        Doc.says("4 it is one of the other side;", x -> {
            due("of 1", refusal(x, "a5a4"), 4);
            move(x, "a2a3");
            due("of 0", refusal(x, "b2b3"), 4);
        });
        Doc.says("5 on the cell to which is a piece of the own side (or it is the cell from which);", x -> {
            due("own", refusal(x, "a1b1"), 5);
            due("itself", refusal(x, "a1a1"), 5);
            move(x, "a2a3");
            due("own of 1", refusal(x, "f6f5"), 5);
            due("itself of 1", refusal(x, "f6f6"), 5);
        });
        Doc.says("6 the kind does not go so (also if something is in between);", x -> {
            due("not so", refusal(x, "a2a4"), 6);
            due("own in between", refusal(x, "a1a3"), 6);
            ClockworkChess y = bare("0 roller b2 9", "1 slider d2 1", "0 slider b1 9", "1 walker d3 1",
                "0 walker e3 9", "1 roller e4 1");
            due("another one in between", refusal(y, "b2e2"), 6);
            due("up to it", refusal(y, "b2d2"), 0);
            due("another one in between", refusal(y, "b1e4"), 6);
            due("up to it", refusal(y, "b1d3"), 0);
            due("a walker straight ahead on a piece", refusal(y, "e3e4"), 6);
            due("a walker diagonally on nothing", refusal(y, "e3f4"), 6);
        });
        Doc.says("7 the spring is less than the cost;", x -> {
            clear(x);
            put(x, "0 roller b2 3");
            due("3 of 4", refusal(x, "b2b6"), 7);
            due("3 of 3", refusal(x, "b2b5"), 0);
            put(x, "0 roller b2 0");
            due("0 of 1", refusal(x, "b2b3"), 7);
        });
        Doc.says("INVALID_ARGUMENT if an argument is out of range.", x -> {
            for (int wrong : WRONG_CELLS) {
                due("both", x.refusal(wrong, wrong), INVALID);
                due("behind the end", over().refusal(wrong, 0), INVALID);
                due("from nothing", x.refusal(at("c4"), wrong), INVALID);
            }
        });
    }

    private static void cost() {
        Doc.section("Promise 12");
        Doc.says("Returns the cost of a move by its kind, whether the spring is enough or not, "
            + "and whichever side is to move.", x -> {
            due("of 0", x.cost(at("a2"), at("a3")), 1);
            due("of 1", x.cost(at("a5"), at("a4")), 1);
            ClockworkChess y = over("0 roller b2 0", "1 slider e5 0", "0 hopper b3 0");
            due("without spring", y.cost(at("b2"), at("f2")), 4);
            due("of 1", y.cost(at("e5"), at("b2")), 3);
            due("behind the end", y.cost(at("b3"), at("c5")), 2);
        });
        Doc.says("- `from`: 0 to 35", x -> dueRange("cost", c -> x.cost(c, 12), 0, 35));
        Doc.says("- `to`: 0 to 35", x -> dueRange("cost", c -> x.cost(6, c), 0, 35));
        Doc.says("Returns the cost;", x -> {
            clear(x);
            put(x, "0 roller b2 9", "1 crown b4 1", "0 walker a3 9", "0 slider f1 9", "0 hopper c5 9");
            due("1", x.cost(at("b2"), at("b1")), 1);
            due("2, taking", x.cost(at("b2"), at("b4")), 2);
            due("4", x.cost(at("b2"), at("f2")), 4);
            due("of a crown", x.cost(at("b4"), at("a3")), 1);
            due("of a walker, taking", x.cost(at("a3"), at("b4")), 1);
            due("of a slider, taking", x.cost(at("f1"), at("b5")), 4);
            due("of a hopper, taking", x.cost(at("c5"), at("b3")), 2);
        });
        Doc.says("INVALID_ARGUMENT if an argument is out of range;", x -> {
            for (int wrong : WRONG_CELLS) {
                due("both", x.cost(wrong, wrong), INVALID);
                due("from nothing", x.cost(at("c4"), wrong), INVALID);
            }
        });
        Doc.says("NOT_FOUND if there is no piece, or it does not go so, "
            + "or a piece of its own side is there.", x -> {
            due("no piece", x.cost(at("c4"), at("c5")), MISSING);
            due("not so", x.cost(at("a2"), at("a4")), MISSING);
            due("something in between", x.cost(at("a1"), at("a3")), MISSING);
            due("an own one", x.cost(at("a1"), at("a2")), MISSING);
            due("an own one of 1", x.cost(at("f6"), at("f5")), MISSING);
            due("itself", x.cost(at("a1"), at("a1")), MISSING);
            put(x, "1 crown a3 0");
            due("a walker straight ahead", x.cost(at("a2"), at("a3")), MISSING);
            due("a walker diagonally on nothing", x.cost(at("b2"), at("c3")), MISSING);
            due("a walker on a piece", x.cost(at("b2"), at("a3")), 1);
        });
    }

    // ---- lists

    private static void moves() {
        Doc.section("Promise 13");
        Doc.says("Returns the number of moves of a side, as if it were to move.", x -> {
            due("of 0", x.moves(0), 10);
            due("of 1, not to move", x.moves(1), 10);
            move(x, "c2c3");
            due("of 0, not to move", x.moves(0), 14);
            due("behind the end", crownTaken("1 crown c4 1").moves(1), 8);
            due("not as if wound", bare("1 crown a1 0").moves(1), 0);
        });
        Doc.says("- `side`: 0 or 1", x -> dueRange("moves", x::moves, 0, 1));
        Doc.says("Returns the number;", x -> {
            clear(x);
            due("none", x.moves(0) + x.moves(1), 0);
            put(x, "1 walker a2 1");
            due("one, to the first cell", x.moves(1), 1);
            put(x, "0 walker f5 1");
            due("one, to the last cell", x.moves(0), 1);
            put(x, "0 walker a1 1", "0 walker f6 1");
            due("none, in the way of one another", x.moves(0) + x.moves(1), 0);
            clear(x);
            put(x, "0 walker a2 1");
            due("one", x.moves(0), 1);
            put(x, "0 walker a2 0");
            due("none without spring", x.moves(0), 0);
            put(x, "0 roller b2 9", "0 roller e2 9", "0 roller b5 9", "0 roller e5 9",
                "1 slider b3 9", "1 slider e3 9");
            due("4 and 5 and 6 and 6", x.moves(0), 21);
            due("7 and 7", x.moves(1), 14);
        });
        Doc.says("INVALID_ARGUMENT if side is out of range.", x -> {
            for (int wrong : WRONG_SIDES) {
                due("moves(" + wrong + ")", x.moves(wrong), INVALID);
            }
        });
    }

    private static void listed() {
        Doc.section("Promise 14");
        Doc.says("Returns a move of a side, as if it were to move.", x -> {
            due("of 0", x.listed(0, 9), told("f2f3"));
            due("of 1, not to move", x.listed(1, 9), told("e6f4"));
            move(x, "a2a3");
            due("of 0, not to move", x.listed(0, 0), told("a1a2"));
            due("behind the end", crownTaken("1 crown c4 1").listed(1, 0), told("c4b3"));
        });
        Doc.says("- `side`: 0 or 1", x -> dueRange("listed", side -> x.listed(side, 0), 0, 1));
        Doc.says("- `index`: 0 for the first one in the list, and so on", x -> {
            dueList(x, 0, told("b1a3"), told("b1c3"), told("e1d3"), told("e1f3"), told("a2a3"),
                told("b2b3"), told("c2c3"), told("d2d3"), told("e2e3"), told("f2f3"));
            dueList(x, 1, told("a5a4"), told("b5b4"), told("c5c4"), told("d5d4"), told("e5e4"),
                told("f5f4"), told("b6a4"), told("b6c4"), told("e6d4"), told("e6f4"));
        });
        Doc.says("Returns 36 * (the cell from which) + (the cell to which);", x -> {
            clear(x);
            put(x, "0 crown b1 1", "1 walker f2 1");
            due("to the first cell", x.listed(0, 0), 36);
            due("to the last one of it", x.listed(0, 4), 36 + 8);
            due("from 11 to 5", x.listed(1, 0), 36 * 11 + 5);
            put(x, "0 walker f5 1");
            due("to the last cell", x.listed(0, 5), 36 * 29 + 35);
            put(x, "0 crown f6 1");
            due("from the last cell", x.listed(0, 5), 36 * 35 + 28);
        });
        Doc.says("INVALID_ARGUMENT if side is out of range or index is negative;", x -> {
            for (int wrong : WRONG_SIDES) {
                due("listed(" + wrong + ", 0)", x.listed(wrong, 0), INVALID);
                due("listed(" + wrong + ", -1)", x.listed(wrong, -1), INVALID);
                due("listed(" + wrong + ", 99)", x.listed(wrong, 99), INVALID);
            }
            due("listed(0, -1)", x.listed(0, -1), INVALID);
            due("listed(1, -1)", x.listed(1, -1), INVALID);
            due("listed(0, min)", x.listed(0, Integer.MIN_VALUE), INVALID);
            due("of none", bare().listed(0, -1), INVALID);
        });
        Doc.says("NOT_FOUND if there are not so many.", x -> {
            due("as many as there are", x.listed(0, 10), MISSING);
            due("as many as there are", x.listed(1, 10), MISSING);
            due("far more", x.listed(0, Integer.MAX_VALUE), MISSING);
            due("the last one", x.listed(1, 9), told("e6f4"));
            due("of none", bare().listed(0, 0), MISSING);
            due("of none with spring", bare("0 crown b2 0").listed(0, 0), MISSING);
        });
    }

    // ---- struck

    private static void struck() {
        Doc.section("Promise 15");
        Doc.says("Tells how many pieces of a side could take a piece of the other side on a cell "
            + "by a move,", x -> {
            clear(x);
            int at = at("c3");
            due("none", x.struck(at, 0), 0);
            put(x, "0 crown b3 1", "0 roller c1 2", "0 slider e5 2", "0 hopper a4 2", "0 walker b2 1");
            due("all five", x.struck(at, 0), 5);
            due("by none of the other side", x.struck(at, 1), 0);
            put(x, "0 crown b3 0", "0 roller c1 1", "0 slider e5 1", "0 hopper a4 1", "0 walker b2 0");
            due("all too weak", x.struck(at, 0), 0);
            put(x, "0 roller c1 2", "0 slider e5 2", "1 walker c2 1", "0 walker d4 1");
            due("something in between", x.struck(at, 0), 0);
            put(x, "1 walker d4 1", "1 walker b4 1");
            due("by two walkers of 1", x.struck(at, 1), 2);
            put(x, "0 slider a1 2", "0 slider f6 3");
            empty(x, "b2");
            empty(x, "e5");
            empty(x, "d4");
            due("from the first and the last cell", x.struck(at, 0), 2);
            due("behind the end", crownTaken("1 roller c4 2").struck(at("c2"), 1), 1);
        });
        Doc.says("if there were one with the spring 0 there (instead of what is there).", x -> {
            clear(x);
            put(x, "0 walker b2 1", "0 crown d2 1");
            due("a walker diagonally, on nothing", x.struck(at("a3"), 0), 1);
            due("both, on nothing", x.struck(at("c3"), 0), 2);
            due("a walker not straight ahead", x.struck(at("b3"), 0), 0);
            put(x, "0 hopper c3 0");
            due("instead of an own one", x.struck(at("c3"), 0), 2);
            duePiece(x, "0 hopper c3 0");
            put(x, "1 hopper c3 9");
            due("instead of another one", x.struck(at("c3"), 0), 2);
            due("its own cell, not by itself", x.struck(at("c3"), 1), 0);
            duePiece(x, "1 hopper c3 9");
            due("its own cell, not by itself", x.struck(at("d2"), 0), 0);
            due("by the piece that is there, elsewhere", x.struck(at("a2"), 1), 1);
            due("pieces", x.count(4), 3);
            put(x, "0 roller e2 9");
            due("the piece there is instead, in the way", x.struck(at("d2"), 0), 1);
            due("nothing is taken away behind it", x.struck(at("c2"), 0), 1);
        });
        Doc.says("- `cell`: 0 to 35", x -> dueRange("struck", c -> x.struck(c, 0), 0, 35));
        Doc.says("- `side`: 0 or 1", x -> dueRange("struck", side -> x.struck(0, side), 0, 1));
        Doc.says("Returns the number;", x -> {
            int[] wanted = {2, 2, 3, 3, 2, 2};
            for (int column = 0; column < 6; column++) {
                due("of 0 on row 2", x.struck(12 + column, 0), wanted[column]);
                due("of 1 on row 2", x.struck(12 + column, 1), 0);
                due("of 1 on row 3", x.struck(18 + column, 1), wanted[column]);
                due("of 0 on row 3", x.struck(18 + column, 0), 0);
            }
        });
        Doc.says("INVALID_ARGUMENT if an argument is out of range.", x -> {
            for (int wrong : WRONG_CELLS) {
                due("both", x.struck(wrong, wrong), INVALID);
                due("cell", x.struck(wrong, 1), INVALID);
            }
            for (int wrong : WRONG_SIDES) {
                due("side", x.struck(35, wrong), INVALID);
            }
        });
    }

    // ---- reach

    private static void reach() {
        Doc.section("Promise 16");
        Doc.says("Returns how many cells a piece can be on behind at most so many moves, "
            + "one behind the other,", x -> {
            clear(x);
            x.set(0, 12);
            put(x, "0 crown b2 12");
            int[] ofCrown = {1, 9, 16, 25, 36, 36, 36, 36, 36, 36, 36, 36, 36};
            for (int moves = 0; moves <= 12; moves++) {
                due("reach of a crown in " + moves, x.reach(at("b2"), moves), ofCrown[moves]);
            }
            put(x, "0 crown b2 2");
            due("as far as the spring goes", x.reach(at("b2"), 12), 16);
            empty(x, "b2");
            put(x, "0 roller b2 5");
            due("a roller in one move", x.reach(at("b2"), 1), 11);
            due("a roller in two moves", x.reach(at("b2"), 2), 30);
            due("a roller in three moves", x.reach(at("b2"), 3), 30);
            empty(x, "b2");
            put(x, "0 slider a1 3");
            due("a slider in one move", x.reach(at("a1"), 1), 4);
            due("a slider in two moves", x.reach(at("a1"), 2), 8);
            due("a slider in three moves", x.reach(at("a1"), 3), 8);
        });
        Doc.says("one behind the other,", x -> {
            // A way of more moves may leave more of the spring: both have to be followed.
            clear(x);
            x.set(0, 12);
            put(x, "1 walker b2 0", "1 walker d2 0", "1 walker f3 0", "1 walker f4 0", "1 walker b5 0",
                "1 walker e5 0", "0 roller f1 11");
            due("all but the walls", x.reach(at("f1"), 6), 30);
        });
        Doc.says("- `cell`: 0 to 35", x -> dueRange("reach", c -> x.reach(c, 1), 0, 35));
        Doc.says("- `moves`: 0 to 12", x -> dueRange("reach", moves -> x.reach(1, moves), 0, 12));
        Doc.says("Returns the number;", x -> {
            due("1", x.reach(at("a1"), 12), 1);
            due("of a hopper in one", x.reach(at("b1"), 1), 3);
            due("of a hopper in two", x.reach(at("b1"), 2), 6);
            due("also of the side that is not to move", x.reach(at("b6"), 1), 3);
            due("also behind the end", crownTaken("1 crown c4 1").reach(at("c4"), 1), 9);
        });
        Doc.says("INVALID_ARGUMENT if an argument is out of range;", x -> {
            for (int wrong : WRONG_CELLS) {
                due("cell", x.reach(wrong, 1), INVALID);
                due("both", x.reach(wrong, 13), INVALID);
            }
            due("moves", x.reach(0, 13), INVALID);
            due("moves", x.reach(0, -1), INVALID);
            due("moves of nothing", x.reach(at("c4"), 13), INVALID);
        });
        Doc.says("NOT_FOUND if the cell is empty.", x -> {
            for (int moves = 0; moves <= 12; moves++) {
                due("of nothing", x.reach(at("c4"), moves), MISSING);
            }
            due("of an empty tower", x.reach(at("c3"), 0), MISSING);
        });
    }

    private static void reachWithNothing() {
        Doc.says("if nothing else moves,", x -> {
            clear(x);
            put(x, "0 crown a2 9", "0 walker a3 9", "0 walker b3 9", "0 walker b2 9", "0 walker b1 9");
            due("shut in by own ones", x.reach(at("a2"), 12), 2);
            due("they do not block one another for ever", x.reach(at("b1"), 12), 1);
            // It may come back to its own cell and go across it.
            put(x, "1 roller e2 9", "1 walker f2 0", "1 walker d2 0", "1 walker d1 0", "1 walker f1 0",
                "1 walker f3 0", "1 walker d3 0");
            due("a roller in one move", x.reach(at("e2"), 1), 6);
            put(x, "1 walker e4 0", "1 walker e6 0");
            due("e1 to e3", x.reach(at("e2"), 12), 3);
        });
        Doc.says("it takes nothing,", x -> {
            clear(x);
            put(x, "0 roller b2 9", "1 walker b3 0", "1 walker c2 0", "1 walker b1 0", "1 crown a2 0");
            due("shut in by others", x.reach(at("b2"), 12), 1);
            put(x, "0 walker b2 9", "1 walker c3 0");
            due("a walker", x.reach(at("b2"), 12), 1);
            put(x, "0 hopper b2 9", "1 walker a4 0", "1 walker c4 0", "1 walker d3 0");
            due("a hopper", x.reach(at("b2"), 1), 2);
        });
        Doc.says("and it is never wound", x -> {
            clear(x);
            put(x, "0 crown b3 1", "0 crown f6 1");
            due("by the tower to which it comes", x.reach(at("b3"), 12), 9);
            due("by the tower on which it is", x.reach(at("f6"), 12), 4);
            put(x, "0 crown f6 0");
            due("without spring", x.reach(at("f6"), 12), 1);
        });
        Doc.says("(its own cell counts;", x -> {
            for (int cell = 0; cell < 6; cell++) {
                due("in no move", x.reach(cell, 0), 1);
            }
            due("once, if it comes back", bare("0 crown b2 9").reach(at("b2"), 2), 16);
            due("if it can't come back", bare("0 walker b5 9").reach(at("b5"), 12), 2);
        });
        Doc.says("a walker stays one).", x -> {
            clear(x);
            put(x, "0 walker b2 9", "1 walker e6 9");
            due("up to the last row", x.reach(at("b2"), 4), 5);
            due("and no further", x.reach(at("b2"), 12), 5);
            due("down to the last row", x.reach(at("e6"), 12), 6);
        });
    }

    // ---- replies and best

    private static void replies() {
        Doc.section("Promise 17");
        Doc.says("Returns the number of games that are different in their moves, of two moves: of the "
            + "side that is to move and then of the other one (with what is wound between);", x -> {
            due("at first", x.replies(), 100);
            dueSetUp(x, 4);
            move(x, "a2a3");
            // a5a4 and b6a4 stand in the way of a walker, b5b4 can be taken.
            due("of the side 1", x.replies(), 10 * 7 + 9 + 9 + 11);
            ClockworkChess y = bare("0 crown b1 1", "1 crown f6 0");
            due("5 moves, and 3 by what is wound", y.replies(), 15);
            y.set(2, 0);
            due("nothing is wound", y.replies(), 5);
            y = bare("0 crown a1 0", "0 walker c3 1", "1 walker e3 1");
            due("not wound for the first move", y.replies(), 1);
            y = bare("1 walker e3 1");
            y.pass();
            due("none for the second move", y.replies(), 1);
            y = bare("0 walker a1 1", "0 crown f6 1", "1 crown d4 1");
            due("from the first and the last cell", y.replies(), 8 * (1 + 3));
            y = bare("0 crown b2 1", "1 walker a2 1", "1 crown f1 1");
            due("to the first cell", y.replies(), 2 * 3 + 5 * 4 + 5);
            due("to the last cell", bare("0 walker f5 1").replies(), 1);
        });
        Doc.says("a first move that takes the crown counts once,", x -> {
            clear(x);
            put(x, "0 roller b2 1", "1 crown c2 1", "1 walker e5 1");
            due("three with 9, and one", x.replies(), 28);
            put(x, "1 crown e1 1");
            due("one of two crowns, also", x.replies(), 43);
        });
        Doc.says("and so does one behind which the other side has no move.", x -> {
            clear(x);
            put(x, "0 crown b2 1");
            due("8, each once", x.replies(), 8);
            put(x, "0 crown c1 1", "1 walker d3 1");
            empty(x, "b2");
            due("4 with 5, and one that stands in the way", x.replies(), 6);
        });
        Doc.says("Returns the number, 0 if the game is over or the side has no move.", x -> {
            due("behind a taken crown", crownTaken("1 crown c4 9").replies(), 0);
            due("behind passes", over().replies(), 0);
            due("stalled, whatever the other side has", bare("1 crown c4 9").replies(), 0);
            due("without spring", bare("0 crown c4 0", "1 crown b2 9").replies(), 0);
            due("one", bare("0 walker b5 1").replies(), 1);
        });
    }

    private static void best() {
        Doc.section("Promise 18");
        Doc.says("Returns the move that gains most at once: the sum of springs of the own side behind "
            + "it, minus that of the other one, is greatest "
            + "(what is wound at the next turn does not count).", x -> {
            clear(x);
            put(x, "0 roller b2 9", "1 walker b3 3", "1 walker e2 5", "1 walker a2 2");
            due("5, rather than 3 and 2", x.best(), told("b2e2"));
            put(x, "1 walker e2 3");
            due("3, rather than 2 and 2", x.best(), told("b2b3"));
            put(x, "0 roller b2 5", "1 walker e2 5");
            due("5, rather than 4 and 3", x.best(), told("b2e2"));
            ClockworkChess y = bare("0 crown b2 3", "1 walker a1 0", "0 crown d2 3", "1 walker e2 1");
            due("the one on a tower would be wound", y.best(), told("d2e2"));
            y = bare("0 crown b2 9", "1 walker c2 2", "0 crown e2 3", "1 walker e3 2");
            due("the limit cuts what is gained", y.best(), told("e2e3"));
            y = bare("0 hopper b2 9", "0 crown e2 9", "1 roller b6 9", "1 roller c6 9", "1 roller d6 9");
            due("the least loss, far below 0", y.best(), told("e2d1"));
            y = bare("1 crown b5 9", "0 walker b6 2", "0 walker c6 5");
            y.pass();
            due("the side 1 is at the limit, and takes most", y.best(), told("b5c6"));
            due("from the first cell", bare("0 crown a1 3", "1 walker b2 5", "0 crown e5 3").best(),
                told("a1b2"));
            due("from the last cell to the first", bare("0 slider f6 9", "1 walker a1 9").best(),
                told("f6a1"));
            due("to the last cell", bare("0 walker f5 1").best(), told("f5f6"));
        });
        Doc.says("Moves that take a crown come before all others;", x -> {
            clear(x);
            put(x, "0 roller a2 5", "1 crown f2 0", "1 walker a3 8", "0 roller b5 1", "1 walker b4 9");
            due("a crown", x.best(), told("a2f2"));
            empty(x, "f2");
            due("the most without one", x.best(), told("b5b4"));
        });
        Doc.says("among them the same holds;", x -> {
            clear(x);
            put(x, "0 roller a2 5", "1 crown f2 0", "1 crown a4 1", "0 walker d4 1", "1 crown c5 8",
                "0 crown d1 9", "1 walker d2 9");
            due("the one that gains most", x.best(), told("d4c5"));
            put(x, "1 crown c5 0");
            due("another one then", x.best(), told("a2a4"));
        });
        Doc.says("of several the first one in the list.", x -> {
            due("of 6 that cost 1", x.best(), told("a2a3"));
            ClockworkChess y = bare("0 roller b2 9");
            due("to the first cell", y.best(), told("b2b1"));
            put(y, "1 crown b3 2", "1 crown c2 2");
            due("of two crowns", y.best(), told("b2c2"));
            put(y, "0 roller c1 9");
            due("from the first cell", y.best(), told("c1c2"));
        });
        Doc.says("Returns the move, as listed() tells it;", x -> {
            due("as listed(0, 4)", x.best(), x.listed(0, 4));
            move(x, "a2a3");
            due("as listed(1, 0), of the side 1", x.best(), x.listed(1, 0));
            due("to the first cell from the second one", bare("0 roller b1 1").best(), 36);
            due("not ahead of the first cell", bare("0 crown a1 1").best(), told("a1b1"));
            ClockworkChess y = bare("1 walker b2 1");
            y.pass();
            due("from 7 to 1", y.best(), 36 * 7 + 1);
            due("nothing is made", y.count(3), 1);
        });
        Doc.says("NOT_FOUND if the game is over or the side has no move.", x -> {
            due("behind a taken crown", crownTaken("1 crown c4 9").best(), MISSING);
            due("behind passes", over().best(), MISSING);
            due("stalled, whatever the other side has", bare("1 crown c4 9").best(), MISSING);
            due("without spring", bare("0 crown c4 0").best(), MISSING);
            due("one move", bare("0 walker b5 1").best(), told("b5b6"));
            due("not behind the last cell", bare("0 walker a6 9").best(), MISSING);
        });
    }
}
