/** A sender of a far screen: what is drawn near is sent far, step by step, each with a budget. */
public final class FarScreen {
    public static final int NONE = -1;
    public static final int LETTER = 0, PICTURE = 1, FILM = 2;
    public static final int MOVE = 0, KNOWN = 1, ROUGH = 2, WHOLE = 3;

    private static final int COLUMNS = 8;
    private static final int ROWS = 6;
    private static final int TILES = 48;
    private static final int LAST_PICTURE = 255;
    private static final int FIRST_NO_LETTER = 64;
    private static final int PER_SIXTEENTH = 16;
    private static final int ROUGH_BASE = 1000;
    private static final int MOST_MOVES = 4;
    private static final int MOST_KNOWN = 8;
    private static final int WAYS_OF_SENDING = 4;
    private static final int MOVE_COST = 2;
    private static final int KNOWN_COST = 1;
    private static final int ROUGH_COST = 2;
    private static final int LETTER_COST = 2;
    private static final int PICTURE_COST = 6;
    private static final int LATEST_STEPS = 0xFF;
    private static final int FILM_CHANGES = 4;
    private static final int LOOKED_AT_BONUS = 5;
    private static final int MOST_BUDGET = 300;
    private static final int MOST_STEPS_TO_GO = 100;

    private final Sender sender;
    /** What stepsToGo tries its steps on: made once, as the room for objects is small. */
    private final Sender trial;

    public FarScreen() {
        sender = new Sender();
        trial = new Sender();
    }

    // ---- drawing

    public int fill(int x, int y, int width, int height, int picture)
            throws IndexOutOfBoundsException, IllegalArgumentException {
        checkBlock(x, y, width, height);
        if (picture < 0 || picture > LAST_PICTURE) {
            throw new IllegalArgumentException("no such picture");
        }
        sender.paint(x, y, width, height, picture);
        return sender.countUnlike();
    }

    public int move(int x, int y, int width, int height, int toX, int toY)
            throws IndexOutOfBoundsException, IllegalArgumentException {
        checkBlock(x, y, width, height);
        checkBlock(toX, toY, width, height);
        if (x == toX && y == toY) {
            throw new IllegalArgumentException("the block would come to where it is");
        }
        sender.shift(x, y, width, height, toX, toY);
        return sender.waitingMoves;
    }

    public int look(int x, int y) throws IndexOutOfBoundsException {
        checkTile(x, y);
        int before = sender.lookedAt;
        sender.lookedAt = tileAt(x, y);
        return before;
    }

    public int step(int budget) throws IllegalArgumentException {
        checkBudget(budget);
        return sender.passStep(budget);
    }

    public int time() {
        return sender.now;
    }

    // ---- screens

    public int near(int x, int y) throws IndexOutOfBoundsException {
        checkTile(x, y);
        return sender.nearTiles[tileAt(x, y)];
    }

    public int far(int x, int y) throws IndexOutOfBoundsException {
        checkTile(x, y);
        return sender.farTiles[tileAt(x, y)];
    }

    public int kind(int x, int y) throws IndexOutOfBoundsException {
        checkTile(x, y);
        return sender.kindOf(tileAt(x, y));
    }

    public int since(int x, int y) throws IndexOutOfBoundsException {
        checkTile(x, y);
        return sender.unlikeSince[tileAt(x, y)];
    }

    public long unlike() {
        return sender.unlikeSet();
    }

    public int rough() {
        return sender.countRough();
    }

    public int waiting() {
        return sender.waitingMoves;
    }

    // ---- what is known and sent

    public int known(int place) throws IndexOutOfBoundsException {
        if (place < 0 || place >= sender.knownRow.count) {
            throw new IndexOutOfBoundsException("not so many pictures are known");
        }
        return sender.knownRow.pictures[place];
    }

    public int knownPictures() {
        return sender.knownRow.count;
    }

    public int sent(int what) throws IllegalArgumentException {
        if (what < 0 || what >= WAYS_OF_SENDING) {
            throw new IllegalArgumentException("nothing is sent so");
        }
        return sender.sentCounts[what];
    }

    public int used() {
        return sender.usedSoFar;
    }

    public int anew() {
        int cost = 0;
        for (int tile = 0; tile < TILES; tile++) {
            cost += wholeCost(sender.nearTiles[tile]);
        }
        return cost;
    }

    public int stepsToGo(int budget) throws IllegalArgumentException {
        checkBudget(budget);
        trial.copyFrom(sender);
        int steps = 0;
        while (steps < MOST_STEPS_TO_GO && !trial.isAllSent()) {
            boolean filmFades = trial.hasFilm();
            int spent = trial.passStep(budget);
            // Without a film only sending changes what a step does: all later ones would be as idle.
            if (spent == 0 && !filmFades) {
                return NONE;
            }
            steps++;
        }
        return trial.isAllSent() ? steps : NONE;
    }

    // ---- what the calls share

    private static void checkTile(int x, int y) {
        if (x < 0 || x >= COLUMNS || y < 0 || y >= ROWS) {
            throw new IndexOutOfBoundsException("no such tile");
        }
    }

    private static void checkBlock(int x, int y, int width, int height) {
        checkTile(x, y);
        // Written with a difference, as a sum could wrap round.
        if (width < 1 || width > COLUMNS - x || height < 1 || height > ROWS - y) {
            throw new IndexOutOfBoundsException("no such block");
        }
    }

    private static void checkBudget(int budget) {
        if (budget < 0 || budget > MOST_BUDGET) {
            throw new IllegalArgumentException("no such budget");
        }
    }

    private static int tileAt(int x, int y) {
        return COLUMNS * y + x;
    }

    private static int wholeCost(int picture) {
        return picture < FIRST_NO_LETTER ? LETTER_COST : PICTURE_COST;
    }

    /** A block of tiles and the place to which it is moved. */
    private static final class BlockMove {
        private int fromX;
        private int fromY;
        private int columns;
        private int rows;
        private int toX;
        private int toY;

        void set(int x, int y, int width, int height, int newX, int newY) {
            fromX = x;
            fromY = y;
            columns = width;
            rows = height;
            toX = newX;
            toY = newY;
        }

        void copyFrom(BlockMove other) {
            set(other.fromX, other.fromY, other.columns, other.rows, other.toX, other.toY);
        }

        /** Moves the tiles of a screen; what it had ahead of that is left in before. */
        void applyTo(int[] screen, int[] before) {
            System.arraycopy(screen, 0, before, 0, TILES);
            for (int row = 0; row < rows; row++) {
                for (int column = 0; column < columns; column++) {
                    screen[tileAt(toX + column, toY + row)] = before[tileAt(fromX + column, fromY + row)];
                }
            }
        }
    }

    /** The pictures that both ends know, the latest one first. */
    private static final class KnownRow {
        private final int[] pictures = new int[MOST_KNOWN];
        private int count = 0;

        void copyFrom(KnownRow other) {
            System.arraycopy(other.pictures, 0, pictures, 0, MOST_KNOWN);
            count = other.count;
        }

        int placeOf(int picture) {
            for (int place = 0; place < count; place++) {
                if (pictures[place] == picture) {
                    return place;
                }
            }
            return NONE;
        }

        boolean holds(int picture) {
            return placeOf(picture) != NONE;
        }

        void meet(int picture) {
            int gap = placeOf(picture);
            if (gap == NONE) {
                if (count < MOST_KNOWN) {
                    count++;
                }
                gap = count - 1;
            }
            for (int place = gap; place > 0; place--) {
                pictures[place] = pictures[place - 1];
            }
            pictures[0] = picture;
        }
    }

    /** Both screens and all that decides what a step sends. */
    private static final class Sender {
        private final int[] nearTiles = new int[TILES];
        /** A picture each, or ROUGH_BASE and a sixteenth. */
        private final int[] farTiles = new int[TILES];
        /** The time each, NONE for one that is alike. */
        private final int[] unlikeSince = new int[TILES];
        /** Bit k is for the k-th step before the one that comes next. */
        private final int[] changes = new int[TILES];
        // Rows to work on, kept as the room for objects is small: what is in them lasts for one call.
        private final int[] worths = new int[TILES];
        private final int[] order = new int[TILES];
        private final int[] before = new int[TILES];

        /** One place more than can wait, for the move that is drawn but not told. */
        private final BlockMove[] moves = new BlockMove[MOST_MOVES + 1];
        private int waitingMoves = 0;
        private final KnownRow knownRow = new KnownRow();
        private final int[] sentCounts = new int[WAYS_OF_SENDING];
        private int usedSoFar = 0;
        private int now = 0;
        private int lookedAt = 0;

        Sender() {
            for (int tile = 0; tile < TILES; tile++) {
                unlikeSince[tile] = NONE;
            }
            for (int place = 0; place < moves.length; place++) {
                moves[place] = new BlockMove();
            }
        }

        void copyFrom(Sender other) {
            System.arraycopy(other.nearTiles, 0, nearTiles, 0, TILES);
            System.arraycopy(other.farTiles, 0, farTiles, 0, TILES);
            System.arraycopy(other.unlikeSince, 0, unlikeSince, 0, TILES);
            System.arraycopy(other.changes, 0, changes, 0, TILES);
            waitingMoves = other.waitingMoves;
            for (int place = 0; place < waitingMoves; place++) {
                moves[place].copyFrom(other.moves[place]);
            }
            knownRow.copyFrom(other.knownRow);
            System.arraycopy(other.sentCounts, 0, sentCounts, 0, WAYS_OF_SENDING);
            usedSoFar = other.usedSoFar;
            now = other.now;
            lookedAt = other.lookedAt;
        }

        // ---- drawing

        void paint(int x, int y, int width, int height, int picture) {
            System.arraycopy(nearTiles, 0, before, 0, TILES);
            for (int row = y; row < y + height; row++) {
                for (int column = x; column < x + width; column++) {
                    nearTiles[tileAt(column, row)] = picture;
                }
            }
            noteChanges();
            noteUnlike();
        }

        void shift(int x, int y, int width, int height, int toX, int toY) {
            BlockMove drawn = moves[waitingMoves];
            drawn.set(x, y, width, height, toX, toY);
            drawn.applyTo(nearTiles, before);
            if (waitingMoves < MOST_MOVES) {
                waitingMoves++;
            }
            noteChanges();
            noteUnlike();
        }

        private void noteChanges() {
            for (int tile = 0; tile < TILES; tile++) {
                if (nearTiles[tile] != before[tile]) {
                    changes[tile] |= 1;
                }
            }
        }

        /** Keeps the time of the tiles that were unlike already. */
        private void noteUnlike() {
            for (int tile = 0; tile < TILES; tile++) {
                if (nearTiles[tile] == farTiles[tile]) {
                    unlikeSince[tile] = NONE;
                } else if (unlikeSince[tile] == NONE) {
                    unlikeSince[tile] = now;
                }
            }
        }

        // ---- asking

        int kindOf(int tile) {
            if (Integer.bitCount(changes[tile]) >= FILM_CHANGES) {
                return FILM;
            }
            return nearTiles[tile] < FIRST_NO_LETTER ? LETTER : PICTURE;
        }

        boolean hasFilm() {
            for (int tile = 0; tile < TILES; tile++) {
                if (kindOf(tile) == FILM) {
                    return true;
                }
            }
            return false;
        }

        long unlikeSet() {
            long set = 0L;
            for (int tile = 0; tile < TILES; tile++) {
                if (unlikeSince[tile] != NONE) {
                    set |= 1L << tile;
                }
            }
            return set;
        }

        int countUnlike() {
            return Long.bitCount(unlikeSet());
        }

        int countRough() {
            int count = 0;
            for (int tile = 0; tile < TILES; tile++) {
                if (farTiles[tile] >= ROUGH_BASE) {
                    count++;
                }
            }
            return count;
        }

        boolean isAllSent() {
            return waitingMoves == 0 && unlikeSet() == 0L;
        }

        // ---- a step

        int passStep(int budget) {
            int spent = tellMoves(budget);
            if (waitingMoves == 0) {
                spent += sendTiles(budget - spent);
            }
            usedSoFar += spent;
            now++;
            settleChanges();
            return spent;
        }

        private int tellMoves(int budget) {
            int told = 0;
            while (told < waitingMoves && budget - told * MOVE_COST >= MOVE_COST) {
                moves[told].applyTo(farTiles, before);
                noteUnlike();
                told++;
            }
            forgetMoves(told);
            sentCounts[MOVE] += told;
            return told * MOVE_COST;
        }

        private void forgetMoves(int told) {
            for (int place = told; place < waitingMoves; place++) {
                moves[place - told].copyFrom(moves[place]);
            }
            waitingMoves -= told;
        }

        private int sendTiles(int budget) {
            int count = putInOrder();
            int left = budget;
            for (int place = 0; place < count; place++) {
                left -= sendTile(order[place], left);
            }
            return budget - left;
        }

        /** Puts the unlike tiles into order, the greatest worth first, and returns how many they are. */
        private int putInOrder() {
            int count = 0;
            for (int tile = 0; tile < TILES; tile++) {
                if (unlikeSince[tile] != NONE) {
                    worths[tile] = worthOf(tile);
                    insertInOrder(tile, count);
                    count++;
                }
            }
            return count;
        }

        private void insertInOrder(int tile, int count) {
            int place = count;
            // Tiles of the same worth stay in front, as theirs are the lower numbers.
            while (place > 0 && worths[order[place - 1]] < worths[tile]) {
                order[place] = order[place - 1];
                place--;
            }
            order[place] = tile;
        }

        private int worthOf(int tile) {
            int age = now - unlikeSince[tile];
            return isLookedAt(tile) ? age + LOOKED_AT_BONUS : age;
        }

        private boolean isLookedAt(int tile) {
            int columnsAway = Math.abs(tile % COLUMNS - lookedAt % COLUMNS);
            int rowsAway = Math.abs(tile / COLUMNS - lookedAt / COLUMNS);
            return columnsAway <= 1 && rowsAway <= 1;
        }

        /** Sends a tile if the budget that is left reaches, and returns what that cost. */
        private int sendTile(int tile, int left) {
            int picture = nearTiles[tile];
            if (knownRow.holds(picture)) {
                return sendPicture(tile, KNOWN, KNOWN_COST, left);
            }
            if (kindOf(tile) == FILM) {
                return sendRoughly(tile, left);
            }
            return sendPicture(tile, WHOLE, wholeCost(picture), left);
        }

        private int sendPicture(int tile, int what, int cost, int left) {
            if (cost > left) {
                return 0;
            }
            farTiles[tile] = nearTiles[tile];
            unlikeSince[tile] = NONE;
            knownRow.meet(nearTiles[tile]);
            sentCounts[what]++;
            return cost;
        }

        private int sendRoughly(int tile, int left) {
            int roughly = ROUGH_BASE + nearTiles[tile] / PER_SIXTEENTH;
            if (ROUGH_COST > left || farTiles[tile] == roughly) {
                return 0;
            }
            farTiles[tile] = roughly;
            sentCounts[ROUGH]++;
            return ROUGH_COST;
        }

        /** Makes room for the step that comes next, and lets the oldest of the eight go. */
        private void settleChanges() {
            for (int tile = 0; tile < TILES; tile++) {
                changes[tile] = (changes[tile] << 1) & LATEST_STEPS;
            }
        }
    }
}
