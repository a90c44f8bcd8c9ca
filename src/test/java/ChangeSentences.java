import java.io.IOException;
import java.io.UncheckedIOException;
import java.nio.file.Files;
import java.nio.file.Path;
import java.util.function.Supplier;
import java.util.function.ToIntFunction;

/** What the document says under "Changes and errors": a test for each sentence, or part of one. */
final class ChangeSentences extends Games {
    private ChangeSentences() {
    }

    static void run() {
        Doc.section("Changes and errors");
        changes();
        records();
        order();
        errors();
        constants();
        headings();
    }

    // ---- games with a history of less than five states

    /** The side 0 has taken a walker, the side 1 is to move; the text has no fault. */
    private static ClockworkChess going() {
        ClockworkChess x = new ClockworkChess();
        put(x, "1 walker a3 9");
        move(x, "b1a3");
        x.set(1, 3);
        write(x, "a5a4;");
        return x;
    }

    /** Both sides have no spring at all. */
    private static ClockworkChess stalled() {
        ClockworkChess x = new ClockworkChess();
        x.set(0, 1);
        x.set(2, 0);
        x.setUp();
        return x;
    }

    /** The limit is 12, but the springs are still of the limit 9. */
    private static ClockworkChess unlimited() {
        ClockworkChess x = new ClockworkChess();
        x.set(0, 12);
        return x;
    }

    private static ClockworkChess passed() {
        ClockworkChess x = stalled();
        due("pass()", x.pass(), 0);
        return x;
    }

    private static ClockworkChess passedBoth() {
        ClockworkChess x = passed();
        due("pass()", x.pass(), 1);
        return x;
    }

    /** A walker stands before the crown of the side 1. */
    private static ClockworkChess threatened() {
        ClockworkChess x = new ClockworkChess();
        put(x, "0 walker b5 9");
        return x;
    }

    private static ClockworkChess won() {
        ClockworkChess x = threatened();
        due("takes the crown", move(x, "b5c6"), 1);
        return x;
    }

    private static ClockworkChess withText(String text) {
        ClockworkChess x = going();
        write(x, text);
        return x;
    }

    // ---- changes

    private static void changes() {
        Doc.says("The changes are the calls of setUp, set, put, tower, move, pass and play "
            + "that return no error", x -> {
            x.setUp();
            due("setUp", x.count(8), 1);
            x.set(0, 12);
            due("set", x.count(8), 2);
            x.put(at("c4"), 0, CROWN, 5);
            due("put", x.count(8), 3);
            x.tower(0);
            due("tower", x.count(8), 4);
            move(x, "b2b3");
            due("move", x.count(8), 5);
            ClockworkChess y = stalled();
            y.pass();
            due("pass", y.count(8), 4);
            write(y, "-;");
            due("type is none", y.count(8), 4);
            y.play();
            due("play", y.count(8), 5);
            y.undo();
            due("undo is none", y.count(8), 4);
            y.clearText();
            due("clearText is none", y.count(8), 4);
        });
        Doc.says("that return no error", x -> {
            ask(x);
            due("questions are none", x.count(8), 0);
            ClockworkChess y = going();
            ask(y);
            dueSame("questions", y, going());
        });
        Doc.says("(also if nothing becomes different).", x -> {
            x.setUp();
            due("setUp", x.count(8), 1);
            x.set(0, 9);
            due("set", x.count(8), 2);
            put(x, "0 roller a1 4");
            due("put", x.count(8), 3);
            x.put(at("c4"), -1, 0, 0);
            due("put on an empty cell", x.count(8), 4);
            due("play of nothing", x.play(), 0);
            due("play", x.count(8), 5);
            dueSetUp(x, 4);
            for (int left = 4; left >= 0; left--) {
                due("undo()", x.undo(), left);
            }
        });
        Doc.says("A history of at most 5 states is kept:", x -> {
            due("none at first", x.count(8), 0);
            for (int change = 1; change <= 8; change++) {
                put(x, "0 roller c4 " + change);
                due("states behind " + change, x.count(8), Math.min(change, 5));
            }
        });
        Doc.says("and if there are 6 states then, the oldest one is dropped.", x -> {
            for (int change = 1; change <= 6; change++) {
                put(x, "0 roller c4 " + change);
            }
            for (int left = 4; left >= 0; left--) {
                due("undo()", x.undo(), left);
                dueSpring(x, "c4", left + 1);
            }
            due("the state before them is gone", x.undo(), IMPOSSIBLE);
            dueSpring(x, "c4", 1);
            for (int change = 1; change <= 5; change++) {
                x.tower(0);
            }
            for (int left = 4; left >= 0; left--) {
                due("undo() of five", x.undo(), left);
            }
            due("none was dropped", x.cell(0, 3), 1);
        });
    }

    private static void ask(ClockworkChess x) {
        x.cell(0, 4);
        x.count(25);
        x.refusal(6, 12);
        x.cost(6, 12);
        x.moves(1);
        x.listed(1, 3);
        x.struck(14, 0);
        x.reach(1, 12);
        x.replies();
        x.best();
        x.fault(0);
        x.fault(1);
    }

    /** Behind a change and undo everything is as it was. */
    private static void dueUndone(String call, Supplier<ClockworkChess> game,
            ToIntFunction<ClockworkChess> change) {
        ClockworkChess x = game.get();
        int states = x.count(8);
        Check.holds(call + " is possible", change.applyAsInt(x) >= 0);
        due(call + ", then undo()", x.undo(), states);
        dueSame(call + ", then undo()", x, game.get());
    }

    private static void records() {
        Doc.says("each change records everything before it but the text,", x -> {
            dueUndone("setUp", ChangeSentences::going, y -> y.setUp());
            dueUndone("setUp of another limit", ChangeSentences::unlimited, y -> y.setUp());
            dueUndone("set(0, 2)", ChangeSentences::going, y -> y.set(0, 2));
            dueUndone("set(0, 12)", ChangeSentences::going, y -> y.set(0, 12));
            dueUndone("set(1, 5)", ChangeSentences::going, y -> y.set(1, 5));
            dueUndone("set(2, 5)", ChangeSentences::going, y -> y.set(2, 5));
            dueUndone("put", ChangeSentences::going, y -> y.put(at("a1"), 1, CROWN, 9));
            dueUndone("put on nothing", ChangeSentences::going, y -> y.put(at("c4"), 0, SLIDER, 3));
            dueUndone("to empty", ChangeSentences::going, y -> y.put(at("a1"), -1, 0, 0));
            dueUndone("tower", ChangeSentences::going, y -> y.tower(at("c3")));
            dueUndone("move", ChangeSentences::going, y -> move(y, "a5a4"));
            dueUndone("play", ChangeSentences::going, y -> y.play());
            dueUndone("setUp behind the end", ChangeSentences::won, y -> y.setUp());
            dueUndone("set behind the end", ChangeSentences::won, y -> y.set(0, 1));
            dueUndone("tower behind the end", ChangeSentences::won, y -> y.tower(0));
            dueUndone("the end by a crown", ChangeSentences::threatened, y -> move(y, "b5c6"));
            dueUndone("pass", ChangeSentences::stalled, y -> y.pass());
            dueUndone("the end by a pass", ChangeSentences::passed, y -> y.pass());
        });
        Doc.says("each change records everything", x -> {
            ClockworkChess y = passed();
            y.undo();
            due("the pass that was taken back is forgotten", y.pass(), 0);
            due("pass of the other side", y.pass(), 1);
            y.undo();
            due("the pass before is known again", y.pass(), 1);
        });
        Doc.says("but the text,", x -> {
            write(x, "ab");
            x.tower(0);
            x.type('c');
            x.undo();
            due("the text stays", x.count(9), 3);
            x.tower(0);
            x.clearText();
            x.undo();
            due("the text stays empty", x.count(9), 0);
        });
    }

    // ---- errors

    private static void order() {
        Doc.says("If several errors apply to a call, INVALID_ARGUMENT is returned rather than "
            + "NOT_POSSIBLE,", x -> {
            due("move of no piece", x.move(at("c4"), 36), INVALID);
            due("move to itself out of the board", x.move(36, 36), INVALID);
            ClockworkChess y = passedBoth();
            due("put on no cell", y.put(36, 0, 0, 0), INVALID);
            due("put of no side", y.put(0, 2, 0, 0), INVALID);
            due("put of no kind", y.put(0, 0, 5, 0), INVALID);
            due("put above the limit", y.put(0, 0, 0, 2), INVALID);
            due("to empty with no kind", y.put(0, -1, 5, 0), INVALID);
            due("move from no cell", y.move(-1, 0), INVALID);
            due("move to no cell", y.move(0, -1), INVALID);
            due("refusal", y.refusal(0, 36), INVALID);
        });
        Doc.says("NOT_POSSIBLE rather than LIMIT_REACHED,", x -> {
            due("no cell rather than a seventh tower", x.tower(36), INVALID);
            ClockworkChess y = passedBoth();
            due("a seventh tower, which is no matter of the end", y.tower(1), LIMIT);
        });
        Doc.says("and LIMIT_REACHED rather than NOT_FOUND.", x -> {
            due("nothing of an empty cell", x.cell(at("c4"), 5), INVALID);
            due("moves of an empty cell", x.reach(at("c4"), 13), INVALID);
            due("cost from an empty cell", x.cost(at("c4"), 36), INVALID);
            due("before the first one of a list", x.listed(0, -1), INVALID);
            due("something of no fault", x.fault(2), INVALID);
            write(x, "a".repeat(80));
            due("no character rather than a full text", x.type(127), INVALID);
        });
    }

    /** The call is refused, and everything is as if it had not been made. */
    private static void dueNothing(String call, Supplier<ClockworkChess> game,
            ToIntFunction<ClockworkChess> refused, int error) {
        ClockworkChess x = game.get();
        due(call, refused.applyAsInt(x), error);
        dueSame(call, x, game.get());
    }

    private static void errors() {
        Doc.says("A call that returns an error changes nothing.", x -> {
            invalid();
            impossible();
            dueNothing("tower", ChangeSentences::going, y -> y.tower(1), LIMIT);
            String full = "a5a4;".repeat(16);
            dueNothing("type", () -> fullText(full), y -> y.type('a'), LIMIT);
            dueNothing("cell", ChangeSentences::going, y -> y.cell(at("c4"), 0), MISSING);
            dueNothing("count", ChangeSentences::going, y -> y.count(2), MISSING);
            dueNothing("cost", ChangeSentences::going, y -> y.cost(at("c4"), 0), MISSING);
            dueNothing("listed", ChangeSentences::going, y -> y.listed(0, 999), MISSING);
            dueNothing("reach", ChangeSentences::going, y -> y.reach(at("c4"), 1), MISSING);
            dueNothing("best", ChangeSentences::passedBoth, y -> y.best(), MISSING);
            dueNothing("fault", ChangeSentences::going, y -> y.fault(0), MISSING);
        });
    }

    private static ClockworkChess fullText(String text) {
        ClockworkChess x = new ClockworkChess();
        write(x, text);
        return x;
    }

    private static void invalid() {
        Supplier<ClockworkChess> game = ChangeSentences::going;
        dueNothing("set(0, 0)", game, y -> y.set(0, 0), INVALID);
        dueNothing("set(0, 13)", game, y -> y.set(0, 13), INVALID);
        dueNothing("set(1, 6)", game, y -> y.set(1, 6), INVALID);
        dueNothing("set(2, -1)", game, y -> y.set(2, -1), INVALID);
        dueNothing("set(3, 1)", game, y -> y.set(3, 1), INVALID);
        dueNothing("put on no cell", game, y -> y.put(36, 0, 0, 0), INVALID);
        dueNothing("put of no side", game, y -> y.put(0, 2, 0, 0), INVALID);
        dueNothing("put of no kind", game, y -> y.put(0, 0, 5, 0), INVALID);
        dueNothing("put of no spring", game, y -> y.put(0, 0, 0, 10), INVALID);
        dueNothing("to empty with no kind", game, y -> y.put(0, -1, 5, 0), INVALID);
        dueNothing("to empty with no spring", game, y -> y.put(0, -1, 0, 10), INVALID);
        dueNothing("tower", game, y -> y.tower(36), INVALID);
        dueNothing("cell", game, y -> y.cell(0, 5), INVALID);
        dueNothing("count", game, y -> y.count(13), INVALID);
        dueNothing("move from no cell", game, y -> y.move(36, 0), INVALID);
        dueNothing("move to no cell", game, y -> y.move(at("a5"), -1), INVALID);
        dueNothing("refusal", game, y -> y.refusal(36, 0), INVALID);
        dueNothing("cost", game, y -> y.cost(0, 36), INVALID);
        dueNothing("moves", game, y -> y.moves(2), INVALID);
        dueNothing("listed", game, y -> y.listed(0, -1), INVALID);
        dueNothing("struck", game, y -> y.struck(0, 2), INVALID);
        dueNothing("reach", game, y -> y.reach(0, 13), INVALID);
        dueNothing("type", game, y -> y.type(31), INVALID);
        dueNothing("fault", game, y -> y.fault(2), INVALID);
    }

    private static void impossible() {
        dueNothing("undo", ClockworkChess::new, y -> y.undo(), IMPOSSIBLE);
        dueNothing("move of no piece", ChangeSentences::going, y -> move(y, "c4c5"), IMPOSSIBLE);
        dueNothing("move of 0", ChangeSentences::going, y -> move(y, "a2a3"), IMPOSSIBLE);
        dueNothing("move on an own piece", ChangeSentences::going, y -> move(y, "a6a5"), IMPOSSIBLE);
        dueNothing("move not so", ChangeSentences::going, y -> move(y, "a5a3"), IMPOSSIBLE);
        dueNothing("move without spring", ChangeSentences::stalled, y -> move(y, "a2a3"), IMPOSSIBLE);
        dueNothing("pass", ChangeSentences::going, y -> y.pass(), IMPOSSIBLE);
        dueNothing("put", ChangeSentences::won, y -> y.put(0, 0, 0, 0), IMPOSSIBLE);
        dueNothing("to empty", ChangeSentences::won, y -> y.put(0, -1, 0, 0), IMPOSSIBLE);
        dueNothing("move", ChangeSentences::won, y -> move(y, "a2a3"), IMPOSSIBLE);
        dueNothing("pass", ChangeSentences::passedBoth, y -> y.pass(), IMPOSSIBLE);
        dueNothing("play", () -> withText("a5a4;a2a3;c9"), y -> y.play(), IMPOSSIBLE);
        dueNothing("play", () -> withText("a5a4;a3a4;"), y -> y.play(), IMPOSSIBLE);
    }

    private static void constants() {
        Doc.says("The constants: `INVALID_ARGUMENT = -1`: An argument is out of its range.", x -> {
            due("constant", ClockworkChess.INVALID_ARGUMENT, -1);
            due("count(13)", x.count(13), ClockworkChess.INVALID_ARGUMENT);
        });
        Doc.says("`NOT_POSSIBLE = -2`: The call is not possible in the present state.", x -> {
            due("constant", ClockworkChess.NOT_POSSIBLE, -2);
            due("undo()", x.undo(), ClockworkChess.NOT_POSSIBLE);
            x.tower(0);
            due("undo() in another state", x.undo(), 0);
        });
        Doc.says("`LIMIT_REACHED = -3`: A fixed limit has been reached.", x -> {
            due("constant", ClockworkChess.LIMIT_REACHED, -3);
            due("tower(1)", x.tower(1), ClockworkChess.LIMIT_REACHED);
        });
        Doc.says("`NOT_FOUND = -4`: There is no such value.", x -> {
            due("constant", ClockworkChess.NOT_FOUND, -4);
            due("count(2)", x.count(2), ClockworkChess.NOT_FOUND);
        });
    }

    private static void headings() {
        Doc.says("Ahead of the calls `setUp`, `set`, `put`, `tower`, `cell`, `count`, `undo` "
            + "the interface says: ---- setting up.", x -> dueHeading("---- setting up", "---- moves",
            "setUp", "set", "put", "tower", "cell", "count", "undo"));
        Doc.says("Ahead of the calls `move`, `pass`, `refusal`, `cost`, `moves`, `listed`, `struck`, "
            + "`reach`, `replies`, `best` the interface says: ---- moves.", x -> dueHeading(
            "---- moves", "---- texts", "move", "pass", "refusal", "cost", "moves", "listed",
            "struck", "reach", "replies", "best"));
        Doc.says("Ahead of the calls `type`, `clearText`, `fault`, `play` the interface says: "
            + "---- texts.", x -> dueHeading("---- texts", "---- what the calls share", "type",
            "clearText", "fault", "play"));
    }

    private static void dueHeading(String heading, String next, String... calls) {
        String source;
        try {
            source = Files.readString(Path.of("src/main/java/ClockworkChess.java"));
        } catch (IOException fault) {
            throw new UncheckedIOException(fault);
        }
        for (String call : calls) {
            int at = source.indexOf("public int " + call + "(");
            Check.holds(call + " stands under " + heading,
                source.indexOf(heading) >= 0 && source.indexOf(heading) < at
                && at < source.indexOf(next));
        }
    }
}
