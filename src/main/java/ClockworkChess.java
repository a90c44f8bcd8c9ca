/**
 * Chess with clockwork pieces on a board of six by six. What each call promises is told in
 * the project's document, DOC.md; the comments here tell only why something is as it is.
 */
public final class ClockworkChess {
    public static final int INVALID_ARGUMENT = -1;
    public static final int NOT_POSSIBLE = -2;
    public static final int LIMIT_REACHED = -3;
    public static final int NOT_FOUND = -4;

    private static final int WIDTH = 6;
    private static final int CELLS = 36;
    private static final int TOWERS_LIMIT = 6;
    private static final int STATES_LIMIT = 5;
    private static final int TEXT_LIMIT = 80;
    private static final int REACH_LIMIT = 12;

    private static final int NONE = -1;

    private static final int CROWN = 0;
    private static final int ROLLER = 1;
    private static final int SLIDER = 2;
    private static final int HOPPER = 3;
    private static final int WALKER = 4;

    private static final int GOES_ON = 0;
    private static final int CROWN_TAKEN = 1;
    private static final int BOTH_PASSED = 2;

    private static final int IS_POSSIBLE = 0;
    private static final int NOT_OF_THE_FORM = 1;
    private static final int GAME_IS_OVER = 2;
    private static final int NO_PIECE = 3;
    private static final int OTHER_SIDES_PIECE = 4;
    private static final int OWN_PIECE_THERE = 5;
    private static final int KIND_GOES_NOT_SO = 6;
    private static final int SPRING_TOO_WEAK = 7;
    private static final int HAS_A_MOVE = 8;

    private static final int MOVE_SIGNS = 5;
    private static final int PASS_SIGNS = 2;
    private static final int REASONS = 16;

    private static final int[] FIRST_ROW = {ROLLER, HOPPER, CROWN, SLIDER, HOPPER, ROLLER};
    private static final int[] FIRST_TOWERS = {0, 5, 14, 21, 30, 35};

    private final Game game = new Game();
    /** A second game to try moves on: one made once spares an object in every such call. */
    private final Game trial = new Game();
    private final Game[] states = new Game[STATES_LIMIT];
    private int stateCount;
    private final char[] text = new char[TEXT_LIMIT];
    private int textLength;
    /** Two rows for reach: the most of the spring that can be left on each cell, or NONE. */
    private int[] springLeft = new int[CELLS];
    private int[] springLeftNext = new int[CELLS];

    public ClockworkChess() {
        for (int index = 0; index < states.length; index++) {
            states[index] = new Game();
        }
        game.begin();
    }

    // ---- setting up

    public int setUp() {
        record();
        game.begin();
        return game.board.springsInAll();
    }

    public int set(int what, int value) {
        if (!isSetting(what, value)) {
            return INVALID_ARGUMENT;
        }
        record();
        int previous = game.setting(what);
        game.changeSetting(what, value);
        return previous;
    }

    public int put(int cell, int side, int kind, int spring) {
        boolean isSideOrNone = isSide(side) || side == NONE;
        boolean isKind = kind >= CROWN && kind <= WALKER;
        boolean isSpring = spring >= 0 && spring <= game.limit;
        if (!isCell(cell) || !isSideOrNone || !isKind || !isSpring) {
            return INVALID_ARGUMENT;
        }
        if (game.isOver()) {
            return NOT_POSSIBLE;
        }
        record();
        boolean wasPiece = game.board.hasPiece(cell);
        game.putInstead(cell, side, kind, spring);
        return wasPiece ? 1 : 0;
    }

    public int tower(int cell) {
        if (!isCell(cell)) {
            return INVALID_ARGUMENT;
        }
        if (!game.board.isTower(cell) && game.board.towersInAll() >= TOWERS_LIMIT) {
            return LIMIT_REACHED;
        }
        record();
        game.board.markTower(cell, !game.board.isTower(cell));
        return game.board.towersInAll();
    }

    public int cell(int cell, int what) {
        if (!isCell(cell) || what < 0 || what > 4) {
            return INVALID_ARGUMENT;
        }
        Board board = game.board;
        if (what == 3) {
            return board.isTower(cell) ? 1 : 0;
        }
        if (!board.hasPiece(cell)) {
            return NOT_FOUND;
        }
        switch (what) {
            case 0:
                return board.sideOn(cell);
            case 1:
                return board.kindOn(cell);
            case 2:
                return board.springOn(cell);
            default:
                return board.movesFrom(cell);
        }
    }

    public int count(int what) {
        switch (what) {
            case 0:
                return game.mover;
            case 1:
                return game.ending;
            case 2:
                return game.winner == NONE ? NOT_FOUND : game.winner;
            case 3:
                return game.turnsMade;
            case 4:
                return game.board.piecesInAll();
            case 5:
                return game.board.towersInAll();
            case 6:
                return game.board.springsOf(0);
            case 7:
                return game.board.springsOf(1);
            case 8:
                return stateCount;
            case 9:
                return textLength;
            case 10:
            case 11:
            case 12:
                return game.setting(what - 10);
            default:
                return isAccount(what - 20) ? game.account(what - 20) : INVALID_ARGUMENT;
        }
    }

    public int undo() {
        Game latest = stateAt(stateCount - 1);
        if (latest == null) {
            return NOT_POSSIBLE;
        }
        stateCount--;
        game.copyFrom(latest);
        return stateCount;
    }

    // ---- moves

    public int move(int from, int to) {
        if (!isCell(from) || !isCell(to)) {
            return INVALID_ARGUMENT;
        }
        if (game.reasonAgainst(from, to) != IS_POSSIBLE) {
            return NOT_POSSIBLE;
        }
        record();
        return game.makeMove(from, to);
    }

    public int pass() {
        if (game.reasonAgainstPass() != IS_POSSIBLE) {
            return NOT_POSSIBLE;
        }
        record();
        game.makePass();
        return game.isOver() ? 1 : 0;
    }

    public int refusal(int from, int to) {
        if (!isCell(from) || !isCell(to)) {
            return INVALID_ARGUMENT;
        }
        return game.reasonAgainst(from, to);
    }

    public int cost(int from, int to) {
        if (!isCell(from) || !isCell(to)) {
            return INVALID_ARGUMENT;
        }
        int price = game.board.price(from, to);
        return price == 0 ? NOT_FOUND : price;
    }

    public int moves(int side) {
        return isSide(side) ? game.board.movesOf(side) : INVALID_ARGUMENT;
    }

    public int listed(int side, int index) {
        if (!isSide(side) || index < 0) {
            return INVALID_ARGUMENT;
        }
        Board board = game.board;
        int before = 0;
        for (int from = 0; from < CELLS; from++) {
            for (int to = 0; board.sideOn(from) == side && to < CELLS; to++) {
                if (board.canMove(from, to)) {
                    if (before == index) {
                        return CELLS * from + to;
                    }
                    before++;
                }
            }
        }
        return NOT_FOUND;
    }

    public int struck(int cell, int side) {
        if (!isCell(cell) || !isSide(side)) {
            return INVALID_ARGUMENT;
        }
        Board board = trial.board;
        board.copyFrom(game.board);
        board.place(cell, 1 - side, WALKER, 0);
        int strikers = 0;
        for (int from = 0; from < CELLS; from++) {
            if (board.sideOn(from) == side && board.canMove(from, cell)) {
                strikers++;
            }
        }
        return strikers;
    }

    public int reach(int cell, int moves) {
        if (!isCell(cell) || moves < 0 || moves > REACH_LIMIT) {
            return INVALID_ARGUMENT;
        }
        if (!game.board.hasPiece(cell)) {
            return NOT_FOUND;
        }
        int side = game.board.sideOn(cell);
        int kind = game.board.kindOn(cell);
        // The piece may come back to its own cell, or go across it, once it has left it.
        trial.board.copyFrom(game.board);
        trial.board.empty(cell);
        for (int other = 0; other < CELLS; other++) {
            springLeft[other] = other == cell ? game.board.springOn(cell) : NONE;
        }
        for (int made = 0; made < moves; made++) {
            makeReachWider(side, kind);
        }
        return cellsReached();
    }

    public int replies() {
        int games = 0;
        for (int from = 0; from < CELLS; from++) {
            for (int to = 0; to < CELLS; to++) {
                if (game.reasonAgainst(from, to) == IS_POSSIBLE) {
                    games += gamesBehind(from, to);
                }
            }
        }
        return games;
    }

    public int best() {
        int bestMove = NOT_FOUND;
        int bestWorth = 0;
        for (int from = 0; from < CELLS; from++) {
            for (int to = 0; to < CELLS; to++) {
                if (game.reasonAgainst(from, to) == IS_POSSIBLE) {
                    int worth = worthOf(from, to);
                    if (bestMove == NOT_FOUND || worth > bestWorth) {
                        bestMove = CELLS * from + to;
                        bestWorth = worth;
                    }
                }
            }
        }
        return bestMove;
    }

    // ---- texts

    public int type(int character) {
        if (character < 32 || character > 126) {
            return INVALID_ARGUMENT;
        }
        if (textLength < 0 || textLength >= text.length) {
            return LIMIT_REACHED;
        }
        text[textLength] = (char) character;
        textLength++;
        return textLength;
    }

    public int clearText() {
        int before = textLength;
        textLength = 0;
        return before;
    }

    public int fault(int what) {
        if (what != 0 && what != 1) {
            return INVALID_ARGUMENT;
        }
        int found = tryText();
        if (found == NONE) {
            return NOT_FOUND;
        }
        return what == 0 ? found / REASONS : found % REASONS;
    }

    public int play() {
        if (tryText() != NONE) {
            return NOT_POSSIBLE;
        }
        record();
        game.copyFrom(trial);
        return movesInText();
    }

    // ---- what the calls share

    private static boolean isCell(int number) {
        return number >= 0 && number < CELLS;
    }

    private static boolean isSide(int number) {
        return number == 0 || number == 1;
    }

    private static boolean isAccount(int number) {
        return number >= 0 && number <= 6;
    }

    private static boolean isSetting(int what, int value) {
        if (what == 0) {
            return value >= 1 && value <= 12;
        }
        return (what == 1 || what == 2) && value >= 0 && value <= 5;
    }

    /** Keeps the game as it is, ahead of a change; the oldest state makes room for the latest. */
    private void record() {
        if (stateCount >= states.length) {
            Game oldest = states[0];
            for (int index = 1; index < states.length; index++) {
                states[index - 1] = states[index];
            }
            states[states.length - 1] = oldest;
            stateCount = states.length - 1;
        }
        Game latest = stateAt(stateCount);
        if (latest != null) {
            latest.copyFrom(game);
            stateCount++;
        }
    }

    private Game stateAt(int index) {
        return index >= 0 && index < states.length ? states[index] : null;
    }

    /** One move more: of several ways to a cell only the one that leaves most can matter. */
    private void makeReachWider(int side, int kind) {
        Board board = trial.board;
        System.arraycopy(springLeft, 0, springLeftNext, 0, CELLS);
        for (int from = 0; from < CELLS; from++) {
            if (springLeft[from] > 0) {
                board.place(from, side, kind, springLeft[from]);
                leaveFrom(from);
                board.empty(from);
            }
        }
        int[] before = springLeft;
        springLeft = springLeftNext;
        springLeftNext = before;
    }

    private void leaveFrom(int from) {
        Board board = trial.board;
        for (int to = 0; to < CELLS; to++) {
            if (!board.hasPiece(to) && board.canMove(from, to)) {
                int left = board.springOn(from) - board.price(from, to);
                springLeftNext[to] = Math.max(springLeftNext[to], left);
            }
        }
    }

    private int cellsReached() {
        int reached = 0;
        for (int cell = 0; cell < CELLS; cell++) {
            if (springLeft[cell] != NONE) {
                reached++;
            }
        }
        return reached;
    }

    /** A first move counts once where no second one can follow. */
    private int gamesBehind(int from, int to) {
        trial.copyFrom(game);
        trial.makeMove(from, to);
        return trial.isOver() ? 1 : Math.max(1, trial.board.movesOf(trial.mover));
    }

    /** The balance of springs behind a move, before the next turn winds any. */
    private int worthOf(int from, int to) {
        trial.copyFrom(game);
        trial.carryOut(from, to);
        int own = game.mover;
        int balance = trial.board.springsOf(own) - trial.board.springsOf(1 - own);
        // No balance comes near to this, so that a taken crown is above all of them.
        return trial.isOver() ? balance + 10000 : balance;
    }

    /**
     * Plays the text on the trial, until a move is not possible.
     * Returns REASONS * position + reason of that one, or NONE if all moves were made.
     */
    private int tryText() {
        trial.copyFrom(game);
        int at = 0;
        for (int made = 0; made < TEXT_LIMIT && at < textLength; made++) {
            int signs = signsOfForm(at);
            int from = cellAt(at);
            int to = cellAt(at + 2);
            int reason = NOT_OF_THE_FORM;
            if (signs == MOVE_SIGNS) {
                reason = trial.reasonAgainst(from, to);
            } else if (signs == PASS_SIGNS) {
                reason = trial.reasonAgainstPass();
            }
            if (reason != IS_POSSIBLE) {
                return REASONS * at + reason;
            }
            if (signs == MOVE_SIGNS) {
                trial.makeMove(from, to);
            } else {
                trial.makePass();
            }
            at += signs;
        }
        return NONE;
    }

    /** The length of the move or pass of the right form at a place of the text, or 0. */
    private int signsOfForm(int at) {
        if (signAt(at) == '-' && signAt(at + 1) == ';') {
            return PASS_SIGNS;
        }
        boolean isMove = cellAt(at) != NONE && cellAt(at + 2) != NONE && signAt(at + 4) == ';';
        return isMove ? MOVE_SIGNS : 0;
    }

    private int cellAt(int at) {
        int column = signAt(at) - 'a';
        int row = signAt(at + 1) - '1';
        boolean isOnBoard = column >= 0 && column < WIDTH && row >= 0 && row < WIDTH;
        return isOnBoard ? WIDTH * row + column : NONE;
    }

    private char signAt(int at) {
        return at >= 0 && at < textLength && at < text.length ? text[at] : (char) 0;
    }

    /** In a text without a fault every move has just one ";". */
    private int movesInText() {
        int ends = 0;
        for (int at = 0; at < textLength; at++) {
            if (signAt(at) == ';') {
                ends++;
            }
        }
        return ends;
    }

    /** The cells with their pieces and towers, and how the kinds go over them. */
    private static final class Board {
        private final int[] sides = new int[CELLS];
        private final int[] kinds = new int[CELLS];
        private final int[] springs = new int[CELLS];
        private final int[] towers = new int[CELLS];

        private Board() {
        }

        private void copyFrom(Board other) {
            System.arraycopy(other.sides, 0, sides, 0, CELLS);
            System.arraycopy(other.kinds, 0, kinds, 0, CELLS);
            System.arraycopy(other.springs, 0, springs, 0, CELLS);
            System.arraycopy(other.towers, 0, towers, 0, CELLS);
        }

        private void arrange(int spring) {
            for (int cell = 0; cell < CELLS; cell++) {
                empty(cell);
                markTower(cell, false);
            }
            for (int column = 0; column < FIRST_ROW.length; column++) {
                place(column, 0, FIRST_ROW[column], spring);
                place(WIDTH + column, 0, WALKER, spring);
                place(4 * WIDTH + column, 1, WALKER, spring);
                place(5 * WIDTH + column, 1, FIRST_ROW[column], spring);
            }
            for (int index = 0; index < FIRST_TOWERS.length; index++) {
                markTower(FIRST_TOWERS[index], true);
            }
        }

        private void place(int cell, int side, int kind, int spring) {
            if (isCell(cell)) {
                sides[cell] = side;
                kinds[cell] = kind;
                springs[cell] = spring;
            }
        }

        /** An empty cell has the spring 0, so that sums need not ask for pieces. */
        private void empty(int cell) {
            place(cell, NONE, CROWN, 0);
        }

        private void changeSpring(int cell, int spring) {
            if (isCell(cell)) {
                springs[cell] = spring;
            }
        }

        private void markTower(int cell, boolean isOne) {
            if (isCell(cell)) {
                towers[cell] = isOne ? 1 : 0;
            }
        }

        private int sideOn(int cell) {
            return isCell(cell) ? sides[cell] : NONE;
        }

        private boolean hasPiece(int cell) {
            return sideOn(cell) != NONE;
        }

        private int kindOn(int cell) {
            return isCell(cell) ? kinds[cell] : CROWN;
        }

        private int springOn(int cell) {
            return isCell(cell) ? springs[cell] : 0;
        }

        private boolean isTower(int cell) {
            return isCell(cell) && towers[cell] == 1;
        }

        private int springsOf(int side) {
            int sum = 0;
            for (int cell = 0; cell < CELLS; cell++) {
                if (sides[cell] == side) {
                    sum += springs[cell];
                }
            }
            return sum;
        }

        private int springsInAll() {
            return springsOf(0) + springsOf(1);
        }

        private int piecesInAll() {
            int sum = 0;
            for (int cell = 0; cell < CELLS; cell++) {
                if (sides[cell] != NONE) {
                    sum++;
                }
            }
            return sum;
        }

        private int towersInAll() {
            int sum = 0;
            for (int cell = 0; cell < CELLS; cell++) {
                sum += towers[cell];
            }
            return sum;
        }

        private int movesOf(int side) {
            int sum = 0;
            for (int from = 0; from < CELLS; from++) {
                for (int to = 0; sides[from] == side && to < CELLS; to++) {
                    if (canMove(from, to)) {
                        sum++;
                    }
                }
            }
            return sum;
        }

        private int movesFrom(int from) {
            int sum = 0;
            for (int to = 0; to < CELLS; to++) {
                if (canMove(from, to)) {
                    sum++;
                }
            }
            return sum;
        }

        private boolean canMove(int from, int to) {
            int price = price(from, to);
            return price > 0 && price <= springOn(from);
        }

        /** The cost of a move of the piece on a cell, or 0 if there is no such move. */
        private int price(int from, int to) {
            int side = sideOn(from);
            int sideThere = sideOn(to);
            if (side == NONE || sideThere == side) {
                return 0;
            }
            int right = to % WIDTH - from % WIDTH;
            int up = to / WIDTH - from / WIDTH;
            int wide = Math.abs(right);
            int high = Math.abs(up);
            switch (kindOn(from)) {
                case CROWN:
                    return Math.max(wide, high) == 1 ? 1 : 0;
                case ROLLER:
                    return wide == 0 || high == 0 ? priceAlong(from, right, up) : 0;
                case SLIDER:
                    return wide == high ? priceAlong(from, right, up) : 0;
                case HOPPER:
                    return wide * high == 2 ? 2 : 0;
                default:
                    int ahead = side == 0 ? 1 : -1;
                    return up == ahead && wide == (sideThere == NONE ? 0 : 1) ? 1 : 0;
            }
        }

        /** The steps along a straight line, or 0 if there are none or something is in between. */
        private int priceAlong(int from, int right, int up) {
            int steps = Math.max(Math.abs(right), Math.abs(up));
            int step = WIDTH * Integer.compare(up, 0) + Integer.compare(right, 0);
            for (int done = 1; done < steps; done++) {
                int between = from + done * step;
                if (between < 0 || between >= CELLS || sides[between] != NONE) {
                    return 0;
                }
            }
            return steps;
        }
    }

    /** All that a state of the history holds: a board with settings, the turn and accounts. */
    private static final class Game {
        private final Board board = new Board();
        private int limit = 9;
        private int bonus = 1;
        private int winding = 2;
        private int mover;
        private int ending;
        private int winner = NONE;
        private int turnsMade;
        private boolean justPassed;
        private int atBeginning;
        private int wound;
        private int gainedByBonus;
        private int spent;
        private int lost;
        private int putOn;

        private Game() {
        }

        private void copyFrom(Game other) {
            board.copyFrom(other.board);
            limit = other.limit;
            bonus = other.bonus;
            winding = other.winding;
            mover = other.mover;
            ending = other.ending;
            winner = other.winner;
            turnsMade = other.turnsMade;
            justPassed = other.justPassed;
            atBeginning = other.atBeginning;
            wound = other.wound;
            gainedByBonus = other.gainedByBonus;
            spent = other.spent;
            lost = other.lost;
            putOn = other.putOn;
        }

        private void begin() {
            board.arrange(limit / 2);
            mover = 0;
            ending = GOES_ON;
            winner = NONE;
            turnsMade = 0;
            justPassed = false;
            atBeginning = board.springsInAll();
            wound = 0;
            gainedByBonus = 0;
            spent = 0;
            lost = 0;
            putOn = 0;
        }

        private boolean isOver() {
            return ending != GOES_ON;
        }

        private int setting(int what) {
            switch (what) {
                case 0:
                    return limit;
                case 1:
                    return bonus;
                default:
                    return winding;
            }
        }

        private void changeSetting(int what, int value) {
            switch (what) {
                case 0:
                    limit = value;
                    cutSprings();
                    break;
                case 1:
                    bonus = value;
                    break;
                default:
                    winding = value;
                    break;
            }
        }

        private void cutSprings() {
            for (int cell = 0; cell < CELLS; cell++) {
                int above = board.springOn(cell) - limit;
                if (above > 0) {
                    board.changeSpring(cell, limit);
                    putOn -= above;
                }
            }
        }

        private int account(int number) {
            switch (number) {
                case 0:
                    return atBeginning;
                case 1:
                    return wound;
                case 2:
                    return gainedByBonus;
                case 3:
                    return spent;
                case 4:
                    return lost;
                case 5:
                    return board.springsInAll();
                default:
                    return putOn;
            }
        }

        private void putInstead(int cell, int side, int kind, int spring) {
            putOn -= board.springOn(cell);
            if (side == NONE) {
                board.empty(cell);
            } else {
                board.place(cell, side, kind, spring);
            }
            putOn += board.springOn(cell);
        }

        private int reasonAgainst(int from, int to) {
            if (isOver()) {
                return GAME_IS_OVER;
            }
            if (!board.hasPiece(from)) {
                return NO_PIECE;
            }
            if (board.sideOn(from) != mover) {
                return OTHER_SIDES_PIECE;
            }
            if (board.sideOn(to) == mover) {
                return OWN_PIECE_THERE;
            }
            int price = board.price(from, to);
            if (price == 0) {
                return KIND_GOES_NOT_SO;
            }
            return board.springOn(from) < price ? SPRING_TOO_WEAK : IS_POSSIBLE;
        }

        private int reasonAgainstPass() {
            if (isOver()) {
                return GAME_IS_OVER;
            }
            return board.movesOf(mover) > 0 ? HAS_A_MOVE : IS_POSSIBLE;
        }

        /** Makes a move that is possible and begins the next turn; returns the cost. */
        private int makeMove(int from, int to) {
            int price = carryOut(from, to);
            if (!isOver()) {
                beginTurn(1 - mover);
            }
            return price;
        }

        /** A move without the turn behind it: best asks for the board before it is wound. */
        private int carryOut(int from, int to) {
            int price = board.price(from, to);
            int kind = board.kindOn(from);
            int spring = board.springOn(from) - price;
            if (board.hasPiece(to)) {
                spring = springBehindTaking(spring, board.springOn(to));
                if (board.kindOn(to) == CROWN) {
                    ending = CROWN_TAKEN;
                    winner = mover;
                }
            }
            int lastRow = mover == 0 ? WIDTH - 1 : 0;
            boolean becomesRoller = kind == WALKER && to / WIDTH == lastRow;
            board.place(to, mover, becomesRoller ? ROLLER : kind, spring);
            board.empty(from);
            spent += price;
            turnsMade++;
            justPassed = false;
            return price;
        }

        private int springBehindTaking(int spring, int taken) {
            int half = taken / 2;
            int full = spring + half + bonus;
            int kept = Math.min(full, limit);
            gainedByBonus += bonus;
            lost += taken - half + full - kept;
            return kept;
        }

        private void makePass() {
            turnsMade++;
            if (justPassed) {
                ending = BOTH_PASSED;
                int balance = board.springsOf(0) - board.springsOf(1);
                if (balance != 0) {
                    winner = balance > 0 ? 0 : 1;
                }
            } else {
                justPassed = true;
                beginTurn(1 - mover);
            }
        }

        private void beginTurn(int side) {
            mover = side;
            for (int cell = 0; cell < CELLS; cell++) {
                if (board.sideOn(cell) == side && board.isTower(cell)) {
                    int gain = Math.min(winding, limit - board.springOn(cell));
                    board.changeSpring(cell, board.springOn(cell) + gain);
                    wound += gain;
                }
            }
        }
    }
}
