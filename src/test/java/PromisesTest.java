/** Each promise of the document by itself: ordinary inputs, the edges that it names, wrong inputs. */
public final class PromisesTest {
    private static final int LEAST = Integer.MIN_VALUE;
    private static final int MOST = Integer.MAX_VALUE;
    private static final String INDEX = "IndexOutOfBoundsException";
    private static final String ARGUMENT = "IllegalArgumentException";

    private static int wrong = 0;
    private static int promise = 0;

    private interface Call {
        long answer(FarScreen screen);
    }

    private static void due(String what, long got, long want) {
        if (got != want) {
            wrong++;
            System.out.println("promise " + promise + ": " + what + " answered " + got + ", due is " + want);
        }
    }

    /** The call throws that exception on a busy object, and nothing that can be asked changes. */
    private static void throwing(String what, String want, Call call) {
        throwingOn(busy(), what, want, call);
    }

    private static void throwingOn(FarScreen screen, String what, String want, Call call) {
        String ahead = picture(screen);
        String got = "nothing";
        try {
            call.answer(screen);
        } catch (RuntimeException thrown) {
            got = thrown.getClass().getSimpleName();
        }
        if (!got.equals(want)) {
            wrong++;
            System.out.println("promise " + promise + ": " + what + " threw " + got + ", due is " + want);
        }
        if (!ahead.equals(picture(screen))) {
            wrong++;
            System.out.println("promise " + promise + ": " + what + " threw and changed something");
        }
    }

    /** An object with something of each kind: a rough tile, unlike ones, known pictures, moves that wait. */
    private static FarScreen busy() {
        FarScreen screen = new FarScreen();
        changeInSteps(screen, 3, 3, 100, 4);
        for (int k = 0; k < 5; k++) {
            screen.fill(k, 0, 1, 1, 50 + 7 * k);
            screen.step(7);
        }
        screen.fill(4, 4, 3, 2, 200);
        screen.move(3, 3, 3, 2, 1, 1);
        screen.move(0, 0, 2, 2, 6, 0);
        screen.look(2, 1);
        return screen;
    }

    /**
     * All that an object answers without a change, but for what looking would tell.
     * Two of these, and what a test does beside them, are within the 512 calls of an object.
     */
    private static String picture(FarScreen screen) {
        StringBuilder all = new StringBuilder();
        for (int y = 0; y < 6; y++) {
            for (int x = 0; x < 8; x++) {
                all.append(screen.near(x, y)).append(',').append(screen.far(x, y)).append(',');
                all.append(screen.kind(x, y)).append(',').append(screen.since(x, y)).append(';');
            }
        }
        int known = screen.knownPictures();
        for (int place = 0; place < known; place++) all.append(screen.known(place)).append(' ');
        for (int what = 0; what < 4; what++) all.append(screen.sent(what)).append('/');
        all.append(screen.time()).append('t').append(screen.unlike()).append('u').append(screen.rough());
        all.append('r').append(screen.waiting()).append('w').append(screen.used()).append('c').append(screen.anew());
        for (int budget = 1; budget < 8; budget += 3) all.append('g').append(screen.stepsToGo(budget));
        return all.toString();
    }

    /** Fills one tile in each of a run of steps in which the budget is 0. */
    private static void changeInSteps(FarScreen screen, int x, int y, int first, int steps) {
        for (int k = 0; k < steps; k++) {
            screen.fill(x, y, 1, 1, first + k);
            screen.step(0);
        }
    }

    /** Four moves of alike tiles that wait, so that no further one does. */
    private static void fourMoves(FarScreen screen) {
        for (int k = 0; k < 4; k++) screen.move(0, 5, 1, 1, 1 + k, 5);
    }

    public static void main(String[] args) {
        newObject();
        fill();
        fillChanges();
        move();
        moveOverlapping();
        moveTold();
        moveNotTold();
        look();
        lookedAtGoesFirst();
        step();
        stepTakesMovesFirst();
        stepOrder();
        stepPassesOver();
        stepKindsOfTheTurn();
        time();
        near();
        far();
        kind();
        kindWindow();
        since();
        sinceByMoves();
        unlike();
        rough();
        waiting();
        known();
        knownPictures();
        sent();
        used();
        anew();
        stepsToGo();
        stepsToGoLimit();
        stepsToGoLeavesAllAsItIs();
        System.out.println(wrong == 0 ? "all promises are kept" : wrong + " answers are not as due");
        if (wrong != 0) System.exit(1);
    }

    private static void newObject() {
        promise = 1;
        FarScreen screen = new FarScreen();
        for (int y = 0; y < 6; y++) {
            for (int x = 0; x < 8; x++) {
                due("near", screen.near(x, y), 0);
                due("far", screen.far(x, y), 0);
                due("kind", screen.kind(x, y), FarScreen.LETTER);
                due("since", screen.since(x, y), FarScreen.NONE);
            }
        }
        due("time", screen.time(), 0);
        due("unlike", screen.unlike(), 0);
        due("rough", screen.rough(), 0);
        due("waiting", screen.waiting(), 0);
        due("knownPictures", screen.knownPictures(), 0);
        for (int what = 0; what < 4; what++) due("sent", screen.sent(what), 0);
        due("used", screen.used(), 0);
        due("anew", screen.anew(), 96);
        due("stepsToGo", screen.stepsToGo(0), 0);
        due("look", screen.look(3, 3), 0);
        FarScreen other = new FarScreen();
        other.fill(0, 0, 8, 6, 9);
        due("near of another object", screen.near(0, 0), 0);
    }

    private static void fill() {
        promise = 2;
        FarScreen screen = new FarScreen();
        due("fill with what is there", screen.fill(0, 0, 8, 6, 0), 0);
        due("fill of a block", screen.fill(2, 1, 3, 2, 7), 6);
        for (int y = 0; y < 6; y++) {
            for (int x = 0; x < 8; x++) {
                boolean inside = x >= 2 && x <= 4 && y >= 1 && y <= 2;
                due("near(" + x + ", " + y + ")", screen.near(x, y), inside ? 7 : 0);
            }
        }
        due("fill of the last tile", screen.fill(7, 5, 1, 1, 255), 7);
        due("fill of a tile that is unlike", screen.fill(2, 1, 1, 1, 8), 7);
        due("fill back", screen.fill(2, 1, 3, 1, 0), 4);
        due("fill of all", screen.fill(0, 0, 8, 6, 255), 48);
        int[][] blocks = {
            {-1, 0, 1, 1}, {8, 0, 1, 1}, {0, -1, 1, 1}, {0, 6, 1, 1}, {0, 0, 0, 1}, {0, 0, 9, 1}, {0, 0, 1, 0},
            {0, 0, 1, 7}, {1, 0, 8, 1}, {7, 0, 2, 1}, {0, 1, 1, 6}, {0, 5, 1, 2}, {0, 0, -1, 1}, {0, 0, 1, -1},
            {LEAST, 0, 1, 1}, {MOST, 0, 1, 1}, {0, LEAST, 1, 1}, {0, MOST, 1, 1}, {0, 0, LEAST, 1},
            {7, 0, MOST, 1}, {0, 0, 1, LEAST}, {0, 5, 1, MOST}};
        for (int[] b : blocks) {
            String call = "fill(" + b[0] + ", " + b[1] + ", " + b[2] + ", " + b[3] + ", ..)";
            throwing(call, INDEX, on -> on.fill(b[0], b[1], b[2], b[3], 5));
            throwing(call + " of no picture", INDEX, on -> on.fill(b[0], b[1], b[2], b[3], 256));
        }
        for (int none : new int[] {-1, 256, LEAST, MOST}) {
            throwing("fill of the picture " + none, ARGUMENT, on -> on.fill(0, 0, 8, 6, none));
        }
    }

    private static void fillChanges() {
        promise = 2;
        FarScreen screen = new FarScreen();
        changeInSteps(screen, 1, 1, 1, 3);
        screen.fill(1, 1, 1, 1, 3);
        due("kind behind a fill with what is there", screen.kind(1, 1), FarScreen.LETTER);
        screen.fill(1, 1, 1, 1, 9);
        screen.fill(1, 1, 1, 1, 3);
        due("kind behind a change to and fro", screen.kind(1, 1), FarScreen.FILM);
        due("kind of its neighbour", screen.kind(2, 1), FarScreen.LETTER);
    }

    private static void move() {
        promise = 3;
        FarScreen screen = new FarScreen();
        screen.fill(0, 0, 1, 1, 1);
        screen.fill(1, 0, 1, 1, 2);
        screen.fill(0, 1, 1, 1, 3);
        screen.fill(1, 1, 1, 1, 4);
        due("first move", screen.move(0, 0, 2, 2, 6, 4), 1);
        int[] came = {screen.near(6, 4), screen.near(7, 4), screen.near(6, 5), screen.near(7, 5)};
        for (int k = 0; k < 4; k++) due("tile " + k + " of the block", came[k], k + 1);
        due("tile from which it came", screen.near(0, 0), 1);
        due("tiles that are unlike", screen.unlike(), 0x3L | 0x300L | 0xC0L << 32 | 0xC0L << 40);
        due("second move", screen.move(0, 0, 8, 5, 0, 1), 2);
        due("third move, which changes nothing", screen.move(2, 0, 1, 1, 3, 0), 3);
        due("fourth move", screen.move(7, 5, 1, 1, 0, 0), 4);
        due("fifth move", screen.move(0, 0, 1, 1, 7, 0), 4);
        due("near by the fifth move", screen.near(7, 0), screen.near(0, 0));
        int[][] moves = {
            {-1, 0, 1, 1, 0, 0}, {8, 0, 1, 1, 0, 0}, {0, -1, 1, 1, 0, 0}, {0, 6, 1, 1, 0, 0}, {0, 0, 0, 1, 1, 0},
            {0, 0, 9, 1, 0, 1}, {0, 0, 1, 0, 1, 0}, {0, 0, 1, 7, 1, 0}, {1, 0, 8, 1, 0, 1}, {0, 1, 1, 6, 1, 0},
            {0, 0, 1, 1, -1, 0}, {0, 0, 1, 1, 8, 0}, {0, 0, 1, 1, 0, -1}, {0, 0, 1, 1, 0, 6}, {0, 0, 2, 1, 7, 0},
            {0, 0, 1, 2, 0, 5}, {0, 0, 8, 6, 1, 0}, {0, 0, 8, 6, 0, 1}, {-1, 0, 1, 1, -1, 0}, {8, 0, 1, 1, 8, 0},
            {0, 0, 0, 1, 0, 0}, {0, 0, 9, 1, 0, 0}, {7, 0, 2, 1, 7, 0},
            {LEAST, 0, 1, 1, 0, 0}, {0, MOST, 1, 1, 0, 0}, {1, 0, MOST, 1, 0, 0}, {0, 1, 1, LEAST, 0, 0},
            {0, 0, 1, 1, MOST, 0}, {0, 0, 1, 1, LEAST, 0}, {0, 0, 1, 1, 0, MOST}, {0, 0, 1, 1, 0, LEAST}};
        for (int[] m : moves) {
            throwing("move(" + m[0] + ", " + m[1] + ", " + m[2] + ", " + m[3] + ", " + m[4] + ", " + m[5] + ")",
                INDEX, on -> on.move(m[0], m[1], m[2], m[3], m[4], m[5]));
        }
        throwing("move to where it is", ARGUMENT, on -> on.move(2, 3, 4, 2, 2, 3));
        throwing("move of all", ARGUMENT, on -> on.move(0, 0, 8, 6, 0, 0));
    }

    private static void moveOverlapping() {
        promise = 3;
        int[][] steps = {{1, 0}, {-1, 0}, {0, 1}, {0, -1}, {1, 1}, {-1, -1}, {1, -1}, {-1, 1}};
        for (int[] s : steps) {
            FarScreen screen = new FarScreen();
            for (int k = 0; k < 48; k++) screen.fill(k % 8, k / 8, 1, 1, 100 + k);
            screen.move(2, 2, 4, 2, 2 + s[0], 2 + s[1]);
            for (int y = 0; y < 6; y++) {
                for (int x = 0; x < 8; x++) {
                    int fromX = x - s[0];
                    int fromY = y - s[1];
                    boolean moved = fromX >= 2 && fromX <= 5 && fromY >= 2 && fromY <= 3;
                    due("near(" + x + ", " + y + ") moved by " + s[0] + ", " + s[1], screen.near(x, y),
                        moved ? 100 + 8 * fromY + fromX : 100 + 8 * y + x);
                }
            }
        }
    }

    private static void moveTold() {
        promise = 3;
        FarScreen screen = new FarScreen();
        for (int k = 0; k < 4; k++) screen.fill(k, 0, 1, 1, 10 + k);
        screen.step(300);
        screen.move(0, 0, 3, 1, 1, 0);
        screen.move(1, 0, 3, 1, 0, 0);
        due("step that tells two", screen.step(4), 4);
        int[] want = {10, 11, 12, 12};
        for (int x = 0; x < 4; x++) {
            due("near(" + x + ", 0)", screen.near(x, 0), want[x]);
            due("far(" + x + ", 0)", screen.far(x, 0), want[x]);
        }
        due("unlike", screen.unlike(), 0);
        due("known pictures are not met by a move", screen.known(0), 13);
        screen.fill(0, 1, 1, 1, 100);
        screen.move(0, 1, 1, 1, 5, 5);
        screen.move(5, 5, 1, 1, 0, 3);
        due("step that tells one of two", screen.step(3), 2);
        due("moves that wait", screen.waiting(), 1);
        due("far of an unlike tile's picture", screen.far(5, 5), 0);
        screen.move(7, 0, 1, 1, 0, 5);
        due("moves that wait", screen.waiting(), 2);
        due("step that tells both", screen.step(4), 4);
        due("moves told", screen.sent(FarScreen.MOVE), 5);
    }

    private static void moveNotTold() {
        promise = 3;
        FarScreen screen = new FarScreen();
        screen.fill(7, 0, 1, 1, 40);
        screen.step(300);
        fourMoves(screen);
        screen.move(7, 0, 1, 1, 6, 0);
        due("unlike by a move that is not told", screen.unlike(), 1L << 6);
        due("step that tells the four", screen.step(8), 8);
        due("far by a move that is not told", screen.far(6, 0), 0);
        due("moves told", screen.sent(FarScreen.MOVE), 4);
        due("step that sends the tile", screen.step(8), 1);
        due("a move may wait again", screen.move(7, 0, 1, 1, 5, 0), 1);
        screen.fill(0, 0, 1, 1, 40);
        for (int k = 0; k < 3; k++) screen.move(7, 0, 1, 1, 1 + k, 1);
        changeInSteps(screen, 7, 4, 1, 3);
        screen.fill(7, 3, 1, 1, 77);
        screen.move(7, 3, 1, 1, 7, 4);
        due("kind by a move that is not told", screen.kind(7, 4), FarScreen.FILM);
    }

    private static void look() {
        promise = 4;
        FarScreen screen = new FarScreen();
        due("look(7, 5)", screen.look(7, 5), 0);
        due("look(3, 2)", screen.look(3, 2), 47);
        due("look(3, 2) again", screen.look(3, 2), 19);
        int[][] places = {{-1, 0}, {8, 0}, {0, -1}, {0, 6}, {LEAST, 0}, {MOST, 0}, {0, LEAST}, {0, MOST}, {-1, 1}, {8, 5}};
        for (int[] p : places) {
            throwing("look(" + p[0] + ", " + p[1] + ")", INDEX, on -> on.look(p[0], p[1]));
        }
        throwingOn(screen, "look(8, 5)", INDEX, on -> on.look(8, 5));
        due("look behind a look that threw", screen.look(0, 0), 19);
    }

    /** What a step with the budget of just one picture sends first, told by the far tile. */
    private static void lookedAtGoesFirst() {
        promise = 4;
        for (int y = 0; y < 6; y++) {
            for (int x = 0; x < 8; x++) {
                FarScreen screen = new FarScreen();
                screen.look(3, 2);
                screen.fill(0, 0, 1, 1, 1);
                screen.fill(x, y, 1, 1, 2);
                screen.step(2);
                boolean close = Math.abs(x - 3) <= 1 && Math.abs(y - 2) <= 1 || x == 0 && y == 0;
                due("far(" + x + ", " + y + ") with the look at (3, 2)", screen.far(x, y), close ? 2 : 0);
            }
        }
        FarScreen edge = new FarScreen();
        edge.look(7, 2);
        edge.fill(0, 0, 1, 1, 1);
        edge.fill(0, 3, 1, 1, 2);
        edge.step(2);
        due("a tile of the next row's other end is not close", edge.far(0, 3), 0);
    }

    private static void step() {
        promise = 5;
        FarScreen screen = new FarScreen();
        due("step with nothing to send", screen.step(300), 0);
        due("step with nothing to spend", screen.step(0), 0);
        screen.fill(0, 0, 1, 1, 63);
        screen.fill(1, 0, 1, 1, 64);
        due("step with 0", screen.step(0), 0);
        due("step with 1", screen.step(1), 0);
        due("step with 2 for a letter", screen.step(2), 2);
        due("far(0, 0)", screen.far(0, 0), 63);
        due("step with 5 for a picture", screen.step(5), 0);
        due("step with 6 for a picture", screen.step(6), 6);
        due("far(1, 0)", screen.far(1, 0), 64);
        screen.fill(0, 0, 1, 1, 64);
        screen.fill(1, 0, 1, 1, 63);
        due("step with 0 for known ones", screen.step(0), 0);
        due("step with 1 for known ones", screen.step(1), 1);
        due("unlike behind that", screen.unlike(), 2);
        due("step with 300 for a known one", screen.step(300), 1);
        for (int k = 0; k < 48; k++) screen.fill(k % 8, k / 8, 1, 1, 100 + k);
        due("step with all the budget", screen.step(300), 288);
        due("unlike", screen.unlike(), 0);
        for (int none : new int[] {-1, 301, LEAST, MOST}) {
            throwing("step(" + none + ")", ARGUMENT, on -> on.step(none));
        }
    }

    private static void stepTakesMovesFirst() {
        promise = 5;
        FarScreen screen = new FarScreen();
        screen.fill(7, 5, 1, 1, 1);
        screen.move(0, 0, 1, 1, 1, 0);
        screen.move(0, 0, 1, 1, 2, 0);
        due("step with 1, a move waits", screen.step(1), 0);
        due("step with 3, one still waits", screen.step(3), 2);
        due("far(7, 5)", screen.far(7, 5), 0);
        due("step with 3, none waits then", screen.step(3), 2);
        due("far(7, 5)", screen.far(7, 5), 0);
        screen.move(0, 0, 1, 1, 1, 0);
        due("step with 4, a move and a tile", screen.step(4), 4);
        due("far(7, 5)", screen.far(7, 5), 1);
        screen.fill(6, 5, 1, 1, 1);
        screen.move(0, 0, 1, 1, 1, 0);
        screen.move(0, 0, 1, 1, 2, 0);
        due("step with 1 for a known one, but moves wait", screen.step(1), 0);
        due("step with 3, one of two moves still waits", screen.step(3), 2);
        due("far(6, 5)", screen.far(6, 5), 0);
        due("step with 3, none waits and one is known", screen.step(3), 3);
        due("a move of a tile that is unlike since the move is told", alikeByTelling(), 0);
    }

    /** The tile that a move makes unlike in the first part is sent in the second. */
    private static long alikeByTelling() {
        FarScreen screen = new FarScreen();
        screen.fill(0, 0, 1, 1, 5);
        screen.step(300);
        screen.move(0, 0, 1, 1, 1, 0);
        screen.fill(1, 0, 1, 1, 0);
        due("unlike ahead of the telling", screen.unlike(), 0);
        due("step that makes a tile unlike and sends it", screen.step(300), 4);
        due("the picture that was met", screen.known(0), 0);
        return screen.unlike();
    }

    private static void stepOrder() {
        promise = 5;
        FarScreen screen = new FarScreen();
        screen.look(7, 5);
        screen.fill(3, 3, 1, 1, 1);
        screen.step(0);
        screen.fill(1, 0, 1, 1, 2);
        screen.fill(2, 0, 1, 1, 3);
        screen.step(2);
        due("the oldest first", screen.unlike(), 6);
        screen.step(2);
        due("of the same age the lowest number", screen.unlike(), 4);
        screen.step(2);
        due("none is left", screen.unlike(), 0);
        orderOfLookAndAge(4, 5);
        orderOfLookAndAge(5, 0);
        orderOfLookAndAge(6, 0);
    }

    /** A tile 0 that is so much older against one, the last, that is looked at. */
    private static void orderOfLookAndAge(int older, int farOfLast) {
        FarScreen screen = new FarScreen();
        screen.look(6, 4);
        screen.fill(0, 0, 1, 1, 4);
        for (int k = 0; k < older; k++) screen.step(0);
        screen.fill(7, 5, 1, 1, 5);
        screen.step(2);
        due("far(7, 5) against a tile older by " + older, screen.far(7, 5), farOfLast);
        due("far(0, 0) older by " + older, screen.far(0, 0), farOfLast == 0 ? 4 : 0);
    }

    private static void stepPassesOver() {
        promise = 5;
        FarScreen screen = new FarScreen();
        screen.look(7, 5);
        screen.fill(0, 0, 1, 1, 80);
        screen.fill(1, 0, 1, 1, 81);
        screen.fill(2, 0, 1, 1, 5);
        screen.fill(3, 0, 1, 1, 80);
        screen.fill(4, 0, 1, 1, 6);
        due("step with 9", screen.step(9), 9);
        due("the second and the last are passed over", screen.unlike(), 2 | 16);
    }

    private static void stepKindsOfTheTurn() {
        promise = 5;
        FarScreen screen = new FarScreen();
        screen.look(7, 5);
        for (int k = 0; k < 8; k++) screen.fill(k, 0, 1, 1, 1 + k);
        screen.step(300);
        screen.fill(0, 1, 1, 1, 1);
        screen.fill(1, 1, 1, 1, 9);
        screen.fill(2, 1, 1, 1, 2);
        screen.fill(3, 1, 1, 1, 9);
        due("a known one is met, so another is forgotten", screen.step(300), 1 + 2 + 2 + 1);
        due("latest", screen.known(0), 9);
        due("next", screen.known(1), 2);
        due("one but next", screen.known(2), 1);
        due("last", screen.known(7), 4);
        FarScreen film = new FarScreen();
        changeInSteps(film, 0, 0, 100, 3);
        film.fill(0, 0, 1, 1, 103);
        film.fill(7, 5, 1, 1, 103);
        film.look(7, 5);
        due("a film whose picture is known by then", film.step(7), 7);
        due("far(0, 0)", film.far(0, 0), 103);
        due("none was sent roughly", film.sent(FarScreen.ROUGH), 0);
        FarScreen twice = new FarScreen();
        changeInSteps(twice, 0, 0, 16, 4);
        due("a film sent roughly", twice.step(1), 0);
        due("a film sent roughly", twice.step(2), 2);
        due("far(0, 0)", twice.far(0, 0), 1001);
        due("a film that has its sixteenth", twice.step(300), 0);
        twice.fill(0, 0, 1, 1, 15);
        due("a film of another sixteenth", twice.step(300), 2);
        due("far(0, 0)", twice.far(0, 0), 1000);
    }

    private static void time() {
        promise = 6;
        FarScreen screen = new FarScreen();
        for (int k = 0; k < 20; k++) {
            due("time", screen.time(), k);
            screen.fill(k % 8, 0, 1, 1, k);
            screen.step(k % 3);
        }
        throwingOn(screen, "step(301)", ARGUMENT, on -> on.step(301));
        due("time", screen.time(), 20);
    }

    private static void near() {
        promise = 7;
        FarScreen screen = new FarScreen();
        for (int k = 0; k < 48; k++) screen.fill(k % 8, k / 8, 1, 1, 208 + k);
        for (int k = 0; k < 48; k++) due("near of tile " + k, screen.near(k % 8, k / 8), 208 + k);
        wrongTiles("near", 0);
    }

    /** Asks of tiles that there are not: 0 near, 1 far, 2 kind, 3 since. */
    private static void wrongTiles(String name, int what) {
        int[][] places = {{-1, 0}, {8, 0}, {0, -1}, {0, 6}, {LEAST, 0}, {MOST, 0}, {0, LEAST}, {0, MOST}, {-1, 1}, {8, 4}};
        for (int[] p : places) {
            throwing(name + "(" + p[0] + ", " + p[1] + ")", INDEX, on -> {
                if (what == 0) return on.near(p[0], p[1]);
                if (what == 1) return on.far(p[0], p[1]);
                return what == 2 ? on.kind(p[0], p[1]) : on.since(p[0], p[1]);
            });
        }
    }

    private static void far() {
        promise = 8;
        FarScreen screen = new FarScreen();
        screen.fill(0, 5, 1, 1, 200);
        due("far ahead of the step", screen.far(0, 5), 0);
        screen.step(300);
        due("far behind the step", screen.far(0, 5), 200);
        due("far of another tile", screen.far(5, 0), 0);
        for (int sixteenth = 0; sixteenth < 16; sixteenth++) {
            for (int last : new int[] {16 * sixteenth, 16 * sixteenth + 15}) {
                FarScreen film = new FarScreen();
                film.fill(7, 5, 1, 1, (last + 50) % 200);
                film.step(6);
                changeInSteps(film, 7, 5, (last + 100) % 200, 4);
                film.fill(7, 5, 1, 1, last);
                film.step(2);
                due("far of a rough tile of the picture " + last, film.far(7, 5), 1000 + sixteenth);
            }
        }
        wrongTiles("far", 1);
    }

    private static void kind() {
        promise = 9;
        FarScreen screen = new FarScreen();
        screen.fill(1, 1, 1, 1, 63);
        screen.fill(2, 1, 1, 1, 64);
        screen.fill(3, 1, 1, 1, 255);
        due("kind of 0", screen.kind(0, 0), FarScreen.LETTER);
        due("kind of 63", screen.kind(1, 1), FarScreen.LETTER);
        due("kind of 64", screen.kind(2, 1), FarScreen.PICTURE);
        due("kind of 255", screen.kind(3, 1), FarScreen.PICTURE);
        wrongTiles("kind", 2);
        FarScreen moved = new FarScreen();
        for (int k = 0; k < 4; k++) {
            due("kind ahead of the change " + k, moved.kind(4, 4), k == 0 ? FarScreen.LETTER : FarScreen.PICTURE);
            moved.fill(0, 0, 1, 1, 100 + k);
            moved.move(0, 0, 1, 1, 4, 4);
            if (k < 3) moved.step(0);
        }
        due("kind by moves", moved.kind(4, 4), FarScreen.FILM);
        moved.step(300);
        due("telling is no change near", moved.kind(4, 4), FarScreen.FILM);
        moved.fill(4, 4, 1, 1, 1);
        due("kind in a film of a letter", moved.kind(4, 4), FarScreen.FILM);
    }

    private static void kindWindow() {
        promise = 9;
        FarScreen screen = new FarScreen();
        changeInSteps(screen, 2, 2, 10, 4);
        for (int k = 0; k < 4; k++) {
            due("kind " + k + " steps later", screen.kind(2, 2), FarScreen.FILM);
            screen.step(0);
        }
        due("kind when the first of four is the ninth", screen.kind(2, 2), FarScreen.LETTER);
        screen.fill(2, 2, 1, 1, 99);
        due("kind with the one that comes", screen.kind(2, 2), FarScreen.FILM);
        screen.step(0);
        due("kind with that behind", screen.kind(2, 2), FarScreen.PICTURE);
        FarScreen apart = new FarScreen();
        for (int k = 0; k < 8; k++) {
            if (k % 2 == 1) apart.fill(0, 0, 1, 1, k);
            if (k < 7) apart.step(0);
        }
        due("kind by each second step", apart.kind(0, 0), FarScreen.FILM);
        apart.step(0);
        apart.step(0);
        due("kind two steps on", apart.kind(0, 0), FarScreen.LETTER);
    }

    private static void since() {
        promise = 10;
        FarScreen screen = new FarScreen();
        screen.step(0);
        screen.fill(3, 2, 1, 1, 70);
        due("since when it becomes unlike", screen.since(3, 2), 1);
        screen.step(0);
        screen.fill(3, 2, 1, 1, 71);
        due("since when it stays unlike", screen.since(3, 2), 1);
        due("since of an alike one", screen.since(2, 3), FarScreen.NONE);
        screen.step(0);
        screen.fill(3, 2, 1, 1, 0);
        due("since when it is alike again", screen.since(3, 2), FarScreen.NONE);
        screen.fill(3, 2, 1, 1, 72);
        due("since when it becomes unlike anew", screen.since(3, 2), 3);
        screen.step(0);
        screen.fill(3, 2, 1, 1, 73);
        screen.step(2);
        due("since when it is rough", screen.since(3, 2), 3);
        due("far", screen.far(3, 2), 1004);
        for (int k = 0; k < 9; k++) screen.step(300);
        due("since when it is sent", screen.since(3, 2), FarScreen.NONE);
        wrongTiles("since", 3);
    }

    private static void sinceByMoves() {
        promise = 10;
        FarScreen screen = new FarScreen();
        screen.fill(0, 0, 1, 1, 7);
        screen.step(300);
        screen.move(0, 0, 1, 1, 1, 0);
        screen.fill(1, 0, 1, 1, 0);
        screen.move(0, 0, 1, 1, 2, 0);
        screen.step(0);
        screen.step(0);
        due("since ahead of the telling", screen.since(1, 0), FarScreen.NONE);
        due("since of what waits", screen.since(2, 0), 1);
        screen.step(2);
        due("since a move that is told", screen.since(1, 0), 3);
        screen.step(2);
        due("since when the move is told", screen.since(2, 0), FarScreen.NONE);
        FarScreen again = new FarScreen();
        again.fill(0, 0, 1, 1, 7);
        again.step(300);
        again.fill(1, 0, 1, 1, 7);
        again.move(1, 0, 1, 1, 1, 1);
        again.move(0, 0, 1, 1, 1, 0);
        again.move(0, 2, 1, 1, 1, 0);
        again.fill(1, 0, 1, 1, 7);
        again.step(0);
        due("since the fill", again.since(1, 0), 1);
        again.step(6);
        due("unlike, alike and unlike in one step", again.since(1, 0), 2);
    }

    private static void unlike() {
        promise = 11;
        FarScreen screen = new FarScreen();
        for (int k = 0; k < 48; k++) {
            screen.fill(k % 8, k / 8, 1, 1, 64 + k);
            due("unlike up to tile " + k, screen.unlike(), (1L << k + 1) - 1);
        }
        screen.step(6);
        due("unlike behind the step", screen.unlike(), (1L << 48) - 2);
        screen.fill(7, 5, 1, 1, 0);
        due("unlike without the last", screen.unlike(), (1L << 47) - 2);
    }

    private static void rough() {
        promise = 12;
        FarScreen screen = new FarScreen();
        for (int k = 0; k < 4; k++) {
            screen.fill(0, 0, 3, 1, 100 + k);
            due("rough ahead", screen.rough(), 0);
            screen.step(k < 3 ? 0 : 4);
        }
        due("rough for 4", screen.rough(), 2);
        screen.step(300);
        due("rough for more", screen.rough(), 3);
        screen.move(0, 0, 3, 1, 5, 5);
        due("rough ahead of the telling", screen.rough(), 3);
        screen.step(2);
        due("rough behind the telling", screen.rough(), 6);
        due("far of a moved one", screen.far(7, 5), 1006);
        due("one that is rough is not alike", screen.unlike() >>> 45, 7);
        for (int k = 0; k < 9; k++) screen.step(300);
        due("rough in the end", screen.rough(), 0);
        FarScreen zero = new FarScreen();
        for (int k = 0; k < 5; k++) {
            zero.fill(0, 0, 1, 1, 1 + k);
            zero.step(k < 4 ? 0 : 2);
        }
        due("rough with the sixteenth 0", zero.rough(), 1);
        zero.fill(0, 0, 1, 1, 0);
        due("the picture 0 against that sixteenth", zero.unlike(), 1);
    }

    private static void waiting() {
        promise = 13;
        FarScreen screen = new FarScreen();
        for (int k = 0; k < 7; k++) {
            due("waiting", screen.waiting(), Math.min(k, 4));
            screen.move(0, 0, 1, 1, 1 + k, 0);
        }
        screen.step(1);
        due("waiting behind a step with 1", screen.waiting(), 4);
        screen.step(5);
        due("waiting behind a step with 5", screen.waiting(), 2);
        screen.step(300);
        due("waiting behind a step with 300", screen.waiting(), 0);
    }

    private static void known() {
        promise = 14;
        FarScreen screen = new FarScreen();
        throwingOn(new FarScreen(), "known(0)", INDEX, on -> on.known(0));
        for (int k = 0; k < 9; k++) {
            screen.fill(k % 8, k / 8, 1, 1, 20 + k);
            screen.step(300);
        }
        for (int place = 0; place < 8; place++) due("known(" + place + ")", screen.known(place), 28 - place);
        screen.fill(5, 5, 1, 1, 24);
        due("step that meets a known one", screen.step(300), 1);
        int[] want = {24, 28, 27, 26, 25, 23, 22, 21};
        for (int place = 0; place < 8; place++) due("known(" + place + ")", screen.known(place), want[place]);
        screen.fill(6, 5, 1, 1, 20);
        due("step that meets a forgotten one", screen.step(300), 2);
        due("known(0)", screen.known(0), 20);
        due("known(7)", screen.known(7), 22);
        for (int none : new int[] {-1, 8, LEAST, MOST}) {
            throwing("known(" + none + ")", INDEX, on -> on.known(none));
        }
        FarScreen one = new FarScreen();
        one.fill(0, 0, 1, 1, 5);
        one.step(300);
        due("known(0)", one.known(0), 5);
        throwingOn(one, "known(1)", INDEX, on -> on.known(1));
        changeInSteps(one, 0, 0, 6, 4);
        one.step(300);
        due("a picture sent roughly is not met", one.known(0), 5);
    }

    private static void knownPictures() {
        promise = 15;
        FarScreen screen = new FarScreen();
        for (int k = 0; k < 12; k++) {
            due("knownPictures", screen.knownPictures(), Math.min(k, 8));
            screen.fill(k % 8, k / 8, 1, 1, 1 + k);
            screen.step(6);
            screen.fill(7 - k % 8, 5 - k / 8, 1, 1, 1 + k);
            screen.step(6);
        }
        due("knownPictures", screen.knownPictures(), 8);
    }

    private static void sent() {
        promise = 16;
        FarScreen screen = new FarScreen();
        screen.fill(0, 0, 3, 1, 5);
        screen.fill(4, 0, 1, 1, 100);
        screen.step(300);
        due("sent(WHOLE)", screen.sent(FarScreen.WHOLE), 2);
        due("sent(KNOWN)", screen.sent(FarScreen.KNOWN), 2);
        screen.move(0, 0, 1, 1, 0, 1);
        screen.move(0, 0, 1, 1, 0, 2);
        screen.step(300);
        due("sent(MOVE)", screen.sent(FarScreen.MOVE), 2);
        changeInSteps(screen, 6, 3, 50, 4);
        screen.step(300);
        screen.step(300);
        due("sent(ROUGH)", screen.sent(FarScreen.ROUGH), 1);
        due("sent(WHOLE)", screen.sent(FarScreen.WHOLE), 2);
        due("sent(KNOWN)", screen.sent(FarScreen.KNOWN), 2);
        for (int none : new int[] {-1, 4, LEAST, MOST}) {
            throwing("sent(" + none + ")", ARGUMENT, on -> on.sent(none));
        }
    }

    private static void used() {
        promise = 17;
        FarScreen screen = new FarScreen();
        int all = 0;
        for (int k = 0; k < 30; k++) {
            screen.fill(k % 8, k % 6, 1, 1, 8 * k);
            screen.move(0, 0, 2, 2, 1 + k % 6, k % 5);
            all += screen.step(k);
            due("used", screen.used(), all);
        }
        due("used is not nothing", screen.used() > 100 ? 1 : 0, 1);
        due("used is for what was sent", screen.used(), 2 * screen.sent(FarScreen.MOVE)
            + screen.sent(FarScreen.KNOWN) + 2 * screen.sent(FarScreen.ROUGH) + wholeCosts(30));
    }

    /** What the run in used() pays for whole tiles: told apart by a second object, step by step. */
    private static int wholeCosts(int steps) {
        FarScreen screen = new FarScreen();
        int all = 0;
        for (int k = 0; k < steps; k++) {
            screen.fill(k % 8, k % 6, 1, 1, 8 * k);
            screen.move(0, 0, 2, 2, 1 + k % 6, k % 5);
            int ahead = 2 * screen.sent(0) + screen.sent(1) + 2 * screen.sent(2);
            int spent = screen.step(k);
            all += spent - (2 * screen.sent(0) + screen.sent(1) + 2 * screen.sent(2) - ahead);
        }
        return all;
    }

    private static void anew() {
        promise = 18;
        FarScreen screen = new FarScreen();
        screen.fill(0, 0, 8, 1, 63);
        due("anew of letters", screen.anew(), 96);
        screen.fill(0, 1, 8, 1, 64);
        due("anew with a row of pictures", screen.anew(), 80 + 48);
        screen.step(300);
        due("anew is of all, sent or not", screen.anew(), 80 + 48);
        screen.fill(0, 0, 8, 6, 255);
        due("anew of pictures", screen.anew(), 288);
        FarScreen film = new FarScreen();
        changeInSteps(film, 0, 0, 200, 4);
        due("anew of a film", film.anew(), 94 + 6);
        film.fill(0, 0, 1, 1, 7);
        due("anew of a film of letters", film.anew(), 96);
    }

    private static void stepsToGo() {
        promise = 19;
        FarScreen screen = new FarScreen();
        due("stepsToGo when all is alike", screen.stepsToGo(0), 0);
        screen.move(0, 0, 1, 1, 1, 0);
        due("stepsToGo when a move waits", screen.stepsToGo(2), 1);
        due("stepsToGo with too little for a move", screen.stepsToGo(1), FarScreen.NONE);
        due("stepsToGo with 0", screen.stepsToGo(0), FarScreen.NONE);
        screen.step(300);
        for (int k = 0; k < 10; k++) screen.fill(k % 8, k / 8, 1, 1, 90 + k);
        due("stepsToGo with 5 for pictures", screen.stepsToGo(5), FarScreen.NONE);
        due("stepsToGo with 6 for pictures", screen.stepsToGo(6), 10);
        due("stepsToGo with 12", screen.stepsToGo(12), 5);
        due("stepsToGo with 59", screen.stepsToGo(59), 2);
        due("stepsToGo with 60", screen.stepsToGo(60), 1);
        due("stepsToGo with 300", screen.stepsToGo(300), 1);
        for (int none : new int[] {-1, 301, LEAST, MOST}) {
            throwing("stepsToGo(" + none + ")", ARGUMENT, on -> on.stepsToGo(none));
        }
    }

    private static void stepsToGoLimit() {
        promise = 19;
        FarScreen film = new FarScreen();
        changeInSteps(film, 0, 0, 30, 7);
        film.fill(0, 0, 1, 1, 37);
        due("stepsToGo till a film ends", film.stepsToGo(300), 6);
        due("stepsToGo with too little for it", film.stepsToGo(1), FarScreen.NONE);
        film.step(300);
        due("stepsToGo when it is rough", film.stepsToGo(300), 5);
        FarScreen back = new FarScreen();
        back.fill(7, 5, 1, 1, 200);
        back.step(6);
        back.fill(7, 5, 1, 1, 201);
        due("stepsToGo with a known one against a film", back.stepsToGo(1), FarScreen.NONE);
        back.fill(7, 5, 1, 1, 200);
        due("stepsToGo when it is alike again", back.stepsToGo(0), 0);
        FarScreen later = new FarScreen();
        later.fill(0, 0, 8, 6, 9);
        due("stepsToGo with one for the first", later.stepsToGo(2), 25);
        due("stepsToGo with 1", later.stepsToGo(1), FarScreen.NONE);
        later.step(2);
        due("stepsToGo with 1 for known ones", later.stepsToGo(1), 47);
    }

    private static void stepsToGoLeavesAllAsItIs() {
        promise = 19;
        FarScreen asked = new FarScreen();
        FarScreen left = new FarScreen();
        for (int k = 0; k < 25; k++) {
            for (FarScreen screen : new FarScreen[] {asked, left}) {
                screen.fill(k % 7, k % 5, 2, 2, 37 * k % 256);
                screen.move(k % 5, 0, 3, 3, 4 - k % 4, 1 + k % 3);
                screen.look(k % 8, k % 6);
            }
            int go = asked.stepsToGo(k);
            if (k == 24) due("all as it was", picture(asked).equals(picture(left)) ? 1 : 0, 1);
            due("stepsToGo twice", asked.stepsToGo(k), go);
            due("answers of the step", asked.step(k), left.step(k));
            if (go == 1) due("unlike tiles and moves behind the one step to go", asked.unlike() + asked.waiting(), 0);
        }
        int steps = asked.stepsToGo(7);
        for (int k = 0; k < steps; k++) {
            due("steps to go on the way", asked.stepsToGo(7), steps - k);
            asked.step(7);
        }
        due("steps to go in the end", asked.stepsToGo(7), 0);
        due("unlike in the end", asked.unlike(), 0);
    }
}
