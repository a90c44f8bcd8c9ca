/** Promises 19 to 22, texts: a test for each sentence, or part of one. */
final class TextSentences extends Games {
    private TextSentences() {
    }

    static void run() {
        type();
        clearText();
        fault();
        play();
    }

    private static void type() {
        Doc.section("Promise 19");
        Doc.says("Appends a character to the text.", x -> {
            write(x, "a2a3");
            due("without an end", x.fault(1), 1);
            x.type(';');
            due("a move", x.fault(1), MISSING);
            due("no change", x.count(8), 0);
            due("also behind the end", over().type('a'), 1);
        });
        Doc.says("- `character`: 32 to 126", x -> {
            dueRange("type", x::type, 32, 126);
            due("two of them", x.count(9), 2);
        });
        Doc.says("Returns the length of the text;", x -> {
            for (int length = 1; length <= 80; length++) {
                due("type()", x.type(32 + length), length);
            }
            x.clearText();
            due("from the beginning", x.type(' '), 1);
        });
        Doc.says("INVALID_ARGUMENT if character is out of range;", x -> {
            int[] wrong = {31, 127, 0, -1, 10, 128, 255, 256 + 'a', 65536 + 'a', Integer.MIN_VALUE,
                Integer.MAX_VALUE};
            for (int character : wrong) {
                due("type(" + character + ")", x.type(character), INVALID);
            }
            due("nothing is appended", x.count(9), 0);
        });
        Doc.says("LIMIT_REACHED if it has 80 characters.", x -> {
            write(x, "a2a3;" + "x".repeat(74));
            due("the last one", x.type('y'), 80);
            due("one more", x.type('z'), LIMIT);
            due("and another one", x.type(32), LIMIT);
            due("length", x.count(9), 80);
            due("still the same", x.fault(0), 5);
        });
    }

    private static void clearText() {
        Doc.section("Promise 20");
        Doc.says("Empties the text.", x -> {
            write(x, "zz");
            x.clearText();
            due("length", x.count(9), 0);
            due("no fault", x.fault(0), MISSING);
            x.type('a');
            due("what was there is gone", x.count(9), 1);
            due("no change", x.count(8), 0);
        });
        Doc.says("Returns the length it had.", x -> {
            due("0", x.clearText(), 0);
            x.type('a');
            due("1", x.clearText(), 1);
            write(x, "x".repeat(80));
            due("80", x.clearText(), 80);
            due("0 again", x.clearText(), 0);
        });
    }

    private static void fault() {
        Doc.section("Promise 21");
        Doc.says("Tells about the fault of the text.", x -> {
            dueFault(x, "a2a3;b5b5;", 5, 5);
            dueSetUp(x, 4);
            due("length", x.count(9), 10);
            due("no change", x.count(8), 0);
        });
        Doc.says("- `what`: 0: its position;", x -> {
            write(x, "?");
            due("at the beginning", x.fault(0), 0);
            write(x, "a2a3;?");
            due("behind a move", x.fault(0), 5);
            write(x, "a2a3;a5a4;?");
            due("behind two", x.fault(0), 10);
            ClockworkChess y = bare();
            write(y, "-;-;-;");
            due("behind two passes", y.fault(0), 4);
        });
        Doc.says("1: its reason", x -> {
            String[] texts = {"?", "c4c5;", "a5a4;", "a1a1;", "a2a4;", "b2b3;", "-;"};
            int[] reasons = {1, 3, 4, 5, 6, 7, 8};
            put(x, "0 walker b2 0");
            for (int index = 0; index < texts.length; index++) {
                write(x, texts[index]);
                due("reason of " + texts[index], x.fault(1), reasons[index]);
            }
            ClockworkChess y = over();
            write(y, "a2a3;");
            due("reason of a move behind the end", y.fault(1), 2);
        });
        Doc.says("Returns that;", x -> {
            write(x, "a2a4;");
            due("a position 0", x.fault(0), 0);
            due("a reason", x.fault(1), 6);
            due("and again", x.fault(0), 0);
        });
        Doc.says("INVALID_ARGUMENT if what is out of range;", x -> {
            dueRange("fault of no text", x::fault, 0, 1);
            write(x, "zz");
            dueRange("fault of a wrong text", x::fault, 0, 1);
        });
        Doc.says("NOT_FOUND if the text has no fault (also if it is empty).", x -> {
            for (int what = 0; what <= 1; what++) {
                due("empty", x.fault(what), MISSING);
                due("empty behind the end", over().fault(what), MISSING);
            }
            dueNoFault(x, "a2a3;");
            dueNoFault(x, "a2a3;a5a4;b1c3;");
            ClockworkChess y = bare();
            dueNoFault(y, "-;-;");
        });
    }

    private static void play() {
        Doc.section("Promise 22");
        Doc.says("Makes all moves of the text, which stays.", x -> {
            write(x, "b1c3;b6c4;c3b5;");
            due("play()", x.play(), 3);
            duePiece(x, "0 hopper b5 5");
            duePiece(x, "1 hopper c4 2");
            dueEmpty(x, "c3");
            due("mover", x.count(0), 1);
            due("made", x.count(3), 3);
            dueAccounts(x, 96, 14, 1, 6, 2, 103, 0);
            due("the text stays", x.count(9), 15);
            x.undo();
            due("the same text again", x.play(), 3);
            ClockworkChess y = bare();
            write(y, "-;");
            y.play();
            due("a pass of the text counts", y.pass(), 1);
            y = bare("0 crown b2 1", "1 crown b3 1");
            write(y, "b2b3;");
            y.play();
            due("over by the text", y.count(1), 1);
            due("winner", y.count(2), 0);
        });
        Doc.says("It is one change.", x -> {
            write(x, "a2a3;a5a4;b2b3;b5b4;");
            x.play();
            due("one state", x.count(8), 1);
            due("undo of all", x.undo(), 0);
            dueSetUp(x, 4);
            due("the text stays", x.count(9), 20);
            x.clearText();
            x.play();
            due("of nothing, too", x.count(8), 1);
        });
        Doc.says("Returns how many there are in it;", x -> {
            due("none", x.play(), 0);
            write(x, "a2a3;");
            due("one", x.play(), 1);
            ClockworkChess y = bare();
            due("none", y.play(), 0);
            write(y, "-;-;");
            due("two passes", y.play(), 2);
            y.clearText();
            due("none behind the end", y.play(), 0);
            ClockworkChess z = bare();
            z.set(0, 12);
            put(z, "0 crown b2 12", "1 crown e5 12");
            write(z, "b2b3;e5e4;b3b2;e4e5;".repeat(4));
            due("16", z.play(), 16);
            due("made", z.count(3), 16);
            ClockworkChess most = bare();
            most.set(0, 12);
            put(most, "1 crown e5 12");
            write(most, "-;e5e4;-;e4e5;".repeat(5) + "-;e5e4;-;");
            due("23, of which 12 are passes", most.play(), 23);
            due("made", most.count(3), 23);
            dueSpring(most, "e4", 1);
        });
        Doc.says("NOT_POSSIBLE if it has a fault.", x -> {
            write(x, "a2a3;a5a4;a3a4;");
            due("play()", x.play(), IMPOSSIBLE);
            dueSetUp(x, 4);
            due("no change", x.count(8), 0);
            write(x, "a2a3;a5a4");
            due("without an end", x.play(), IMPOSSIBLE);
            write(x, "-;");
            due("a pass with moves", x.play(), IMPOSSIBLE);
            write(x, "a2a3;");
            due("without a fault", x.play(), 1);
            due("now it has one", x.play(), IMPOSSIBLE);
            ClockworkChess y = over();
            write(y, "-;");
            due("behind the end", y.play(), IMPOSSIBLE);
        });
    }
}
