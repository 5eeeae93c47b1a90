import java.util.ArrayList;
import java.util.List;

/**
 * Calls that are refused: at both ends of each range and one beyond them, by numbers so large or so small that sums
 * wrap around, and with several faults at once. Behind each of them all that can be asked is asked.
 */
public final class RefusedCallsTest {
    private static final int LEAST = Integer.MIN_VALUE;
    private static final int MOST = Integer.MAX_VALUE;
    /** Eight times this is 0 with the wrap-around, so that a tile's number would seem to be one of the screen. */
    private static final int WRAPPING = 1 << 29;
    private static final int[] EDGES = {
        LEAST, LEAST + 1, -WRAPPING, -8, -1, 0, 1, 2, 5, 6, 7, 8, 9, WRAPPING, MOST - 7, MOST - 1, MOST};
    private static final int[] FEWER_EDGES = {LEAST, -1, 0, 1, 5, 6, 7, 8, MOST};

    private static final String NOTHING = "nothing";
    private static final String INDEX = "IndexOutOfBoundsException";
    private static final String ARGUMENT = "IllegalArgumentException";
    private static final int STATES = 4;

    private static final String[] NOW = new String[STATES];
    private static final String[] LATER = new String[STATES];
    private static int wrong = 0;

    private interface Call {
        long answer(FarScreen screen);
    }

    public static void main(String[] args) {
        for (int state = 0; state < STATES; state++) {
            FarScreen untouched = made(state);
            NOW[state] = now(untouched);
            LATER[state] = later(untouched);
        }
        fillOfNoBlock();
        fillOfNoPicture();
        fillGrid();
        moveOfNoBlock();
        moveToWhereItIs();
        moveGrid();
        noSuchTile();
        noSuchBudget();
        noSuchKnownPicture();
        noSuchWay();
        System.out.println(wrong == 0 ? "all refusals are as due" : wrong + " refusals are not as due");
        if (wrong != 0) System.exit(1);
    }

    // ---- what is compared

    /** A new object, a busy one, one with all rows full, and one that has become alike again. */
    private static FarScreen made(int state) {
        FarScreen screen = new FarScreen();
        if (state == 1) makeBusy(screen);
        if (state == 2) makeFull(screen);
        if (state == 3) {
            makeBusy(screen);
            for (int k = 0; k < 9; k++) screen.step(300);
        }
        return screen;
    }

    /** A rough tile that is a film still, unlike ones, known pictures, two moves that wait. */
    private static void makeBusy(FarScreen screen) {
        for (int k = 0; k < 4; k++) {
            screen.fill(3, 3, 1, 1, 100 + k);
            screen.fill(k, 0, 1, 1, 50 + 7 * k);
            screen.step(4);
        }
        screen.fill(4, 4, 3, 2, 200);
        screen.move(3, 3, 3, 2, 1, 1);
        screen.move(0, 0, 2, 2, 6, 0);
        screen.look(2, 1);
    }

    /**
     * Eight known pictures, four moves that wait and one that is not told, all tiles unlike, and each of them
     * with three changes, so that one change more would show.
     */
    private static void makeFull(FarScreen screen) {
        for (int k = 0; k < 9; k++) screen.fill(k % 8, k / 8, 1, 1, 60 + k);
        screen.step(300);
        screen.fill(0, 0, 8, 6, 253);
        screen.step(0);
        screen.fill(0, 0, 8, 6, 254);
        screen.step(0);
        screen.fill(0, 0, 8, 6, 255);
        screen.fill(7, 0, 1, 6, 65);
        for (int k = 0; k < 5; k++) screen.move(7, k, 1, 1, k, 5);
        screen.look(7, 5);
    }

    /** All that can be asked without a change: at most 219 calls. */
    private static String now(FarScreen screen) {
        StringBuilder all = new StringBuilder();
        for (int k = 0; k < 48; k++) {
            all.append(screen.near(k % 8, k / 8)).append(',').append(screen.far(k % 8, k / 8)).append(',');
            all.append(screen.kind(k % 8, k / 8)).append(',').append(screen.since(k % 8, k / 8)).append(' ');
        }
        int known = screen.knownPictures();
        all.append(" known ").append(known).append(':');
        for (int place = 0; place < known; place++) all.append(screen.known(place)).append(' ');
        for (int what = 0; what < 4; what++) all.append(" sent ").append(screen.sent(what));
        all.append(" time ").append(screen.time()).append(" unlike ").append(screen.unlike());
        all.append(" rough ").append(screen.rough()).append(" waiting ").append(screen.waiting());
        all.append(" used ").append(screen.used()).append(" anew ").append(screen.anew());
        for (int budget : new int[] {0, 1, 2, 5, 6, 7, 100, 300}) all.append(" go ").append(screen.stepsToGo(budget));
        return all.toString();
    }

    /** What can't be asked shows in this: the place that is looked at, which moves wait, latest changes: 107 calls. */
    private static String later(FarScreen screen) {
        StringBuilder all = new StringBuilder();
        for (int k = 0; k < 9; k++) all.append(screen.step(k)).append(' ');
        all.append(screen.look(1, 4)).append(" unlike ").append(screen.unlike()).append(' ');
        for (int k = 0; k < 48; k++) {
            all.append(screen.near(k % 8, k / 8)).append(',').append(screen.far(k % 8, k / 8)).append(' ');
        }
        return all.toString();
    }

    private static void checkUntouched(int state, String what, FarScreen screen) {
        if (!now(screen).equals(NOW[state]) || !later(screen).equals(LATER[state])) {
            wrong++;
            System.out.println(what + " was refused and changed something, in the state " + state);
        }
    }

    private static String thrownBy(FarScreen screen, Call call) {
        try {
            call.answer(screen);
            return NOTHING;
        } catch (RuntimeException thrown) {
            return thrown.getClass().getSimpleName();
        }
    }

    private static void checkThrown(String what, String got, String want) {
        if (!got.equals(want)) {
            wrong++;
            System.out.println(what + " threw " + got + ", due is " + want);
        }
    }

    private static void refused(String what, String want, Call call) {
        for (int state = 0; state < STATES; state++) refusedIn(state, what, want, call);
    }

    private static void refusedIn(int state, String what, String want, Call call) {
        FarScreen screen = made(state);
        checkThrown(what, thrownBy(screen, call), want);
        checkUntouched(state, what, screen);
    }

    private static void taken(String what, FarScreen screen, Call call, long want) {
        String got = thrownBy(screen, on -> {
            long answer = call.answer(on);
            if (answer != want) {
                wrong++;
                System.out.println(what + " answered " + answer + ", due is " + want);
            }
            return answer;
        });
        checkThrown(what, got, NOTHING);
    }

    /** Many refused calls go to one object, up to a hundred, before it is asked whether it is as it was. */
    private static final class Batch {
        private FarScreen screen = made(1);
        private int calls = 0;
        private String last = "";

        void refused(String what, String want, Call call) {
            checkThrown(what, thrownBy(screen, call), want);
            last = what;
            calls++;
            if (calls == 100) end();
        }

        void end() {
            checkUntouched(1, "one of " + calls + " calls up to " + last, screen);
            screen = made(1);
            calls = 0;
        }
    }

    // ---- fill

    private static String shown(String name, int... arguments) {
        StringBuilder all = new StringBuilder(name).append('(');
        for (int k = 0; k < arguments.length; k++) all.append(k == 0 ? "" : ", ").append(arguments[k]);
        return all.append(')').toString();
    }

    /** By sums of long, which can't wrap around here. */
    private static boolean isBlock(long x, long y, long width, long height) {
        return x >= 0 && y >= 0 && width >= 1 && height >= 1 && x + width <= 8 && y + height <= 6;
    }

    /** Blocks with just one fault each, and some with several. */
    private static List<int[]> noBlocks() {
        List<int[]> blocks = new ArrayList<>();
        for (int x : new int[] {LEAST, -WRAPPING, -1, 8, WRAPPING, MOST}) blocks.add(new int[] {x, 0, 1, 1});
        for (int y : new int[] {LEAST, -WRAPPING, -1, 6, WRAPPING, MOST}) blocks.add(new int[] {0, y, 1, 1});
        for (int width : new int[] {LEAST, -1, 0, 9, MOST}) blocks.add(new int[] {0, 0, width, 1});
        for (int height : new int[] {LEAST, -1, 0, 7, MOST}) blocks.add(new int[] {0, 0, 1, height});
        for (int x = 1; x < 8; x++) blocks.add(new int[] {x, 0, 9 - x, 1});
        for (int y = 1; y < 6; y++) blocks.add(new int[] {0, y, 1, 7 - y});
        blocks.add(new int[] {7, 5, MOST, 1});
        blocks.add(new int[] {7, 5, MOST - 6, 1});
        blocks.add(new int[] {7, 5, 1, MOST - 4});
        blocks.add(new int[] {7, 5, 1, MOST});
        blocks.add(new int[] {7, 0, LEAST, 1});
        blocks.add(new int[] {LEAST, 0, LEAST, 1});
        blocks.add(new int[] {LEAST, LEAST, LEAST, LEAST});
        blocks.add(new int[] {MOST, MOST, MOST, MOST});
        blocks.add(new int[] {-1, 0, 2, 1});
        blocks.add(new int[] {-8, 1, 1, 1});
        blocks.add(new int[] {8, 5, 0, 0});
        return blocks;
    }

    private static void fillOfNoBlock() {
        for (int[] b : noBlocks()) {
            for (int picture : new int[] {0, 77, 255, -1, 256, LEAST, MOST}) {
                refused(shown("fill", b[0], b[1], b[2], b[3], picture), INDEX,
                    on -> on.fill(b[0], b[1], b[2], b[3], picture));
            }
        }
    }

    private static void fillOfNoPicture() {
        int[][] blocks = {{0, 0, 1, 1}, {0, 0, 8, 6}, {7, 5, 1, 1}, {3, 2, 2, 3}};
        for (int[] b : blocks) {
            for (int picture : new int[] {LEAST, LEAST + 1, -256, -1, 256, 257, 1000, 65536, MOST}) {
                refused(shown("fill", b[0], b[1], b[2], b[3], picture), ARGUMENT,
                    on -> on.fill(b[0], b[1], b[2], b[3], picture));
            }
        }
    }

    private static void fillGrid() {
        Batch batch = new Batch();
        for (int x : EDGES) {
            for (int y : EDGES) {
                for (int width : EDGES) {
                    for (int height : EDGES) fillOf(batch, x, y, width, height);
                }
            }
        }
        batch.end();
    }

    private static void fillOf(Batch batch, int x, int y, int width, int height) {
        boolean block = isBlock(x, y, width, height);
        for (int picture : new int[] {-1, 0, 255, 256}) {
            String what = shown("fill", x, y, width, height, picture);
            Call call = on -> on.fill(x, y, width, height, picture);
            if (!block) batch.refused(what, INDEX, call);
            else if (picture < 0 || picture > 255) batch.refused(what, ARGUMENT, call);
            else taken(what, new FarScreen(), call, picture == 0 ? 0 : width * height);
        }
    }

    // ---- move

    private static void moveOfNoBlock() {
        for (int[] b : noBlocks()) {
            int[][] aims = {{0, 0}, {1, 1}, {b[0], b[1]}};
            for (int[] to : aims) {
                refused(shown("move", b[0], b[1], b[2], b[3], to[0], to[1]), INDEX,
                    on -> on.move(b[0], b[1], b[2], b[3], to[0], to[1]));
            }
        }
        int[][] moves = {
            {0, 0, 1, 1, -1, 0}, {0, 0, 1, 1, 8, 0}, {0, 0, 1, 1, 0, -1}, {0, 0, 1, 1, 0, 6}, {0, 0, 8, 6, 1, 0},
            {0, 0, 8, 6, 0, 1}, {0, 0, 8, 1, -1, 1}, {0, 0, 2, 1, 7, 0}, {0, 0, 1, 2, 0, 5}, {6, 0, 2, 1, 7, 0},
            {0, 4, 1, 2, 0, 5}, {0, 0, 1, 1, LEAST, 0}, {0, 0, 1, 1, MOST, 0}, {0, 0, 1, 1, 0, LEAST},
            {0, 0, 1, 1, 0, MOST}, {0, 0, 8, 1, MOST - 7, 0}, {0, 0, 1, 6, 0, MOST - 5}, {0, 0, 1, 1, WRAPPING, 0},
            {0, 0, 1, 1, 0, WRAPPING}, {0, 0, 1, 1, 0, -WRAPPING}, {0, 1, 1, 1, -8, 2}, {0, 1, 1, 1, 8, 0}};
        for (int[] m : moves) {
            refused(shown("move", m), INDEX, on -> on.move(m[0], m[1], m[2], m[3], m[4], m[5]));
        }
    }

    private static void moveToWhereItIs() {
        for (int width = 1; width <= 8; width++) {
            for (int height = 1; height <= 6; height++) {
                for (int k = 0; k < 4; k++) {
                    int[] m = {k % 2 * (8 - width), k / 2 * (6 - height), width, height};
                    refused(shown("move", m[0], m[1], m[2], m[3], m[0], m[1]), ARGUMENT,
                        on -> on.move(m[0], m[1], m[2], m[3], m[0], m[1]));
                }
            }
        }
    }

    private static void moveGrid() {
        Batch batch = new Batch();
        int edges = FEWER_EDGES.length;
        int all = edges * edges * edges;
        for (int from = 0; from < all; from++) {
            for (int to = 0; to < all; to++) {
                moveOf(batch, FEWER_EDGES[from % edges], FEWER_EDGES[from / edges % edges],
                    FEWER_EDGES[from / edges / edges], FEWER_EDGES[to % edges], FEWER_EDGES[to / edges % edges],
                    FEWER_EDGES[to / edges / edges]);
            }
        }
        batch.end();
    }

    private static void moveOf(Batch batch, int x, int y, int width, int height, int toX, int toY) {
        String what = shown("move", x, y, width, height, toX, toY);
        Call call = on -> on.move(x, y, width, height, toX, toY);
        if (!isBlock(x, y, width, height) || !isBlock(toX, toY, width, height)) batch.refused(what, INDEX, call);
        else if (x == toX && y == toY) batch.refused(what, ARGUMENT, call);
        else taken(what, new FarScreen(), call, 1);
    }

    // ---- one tile

    private static long askTile(FarScreen screen, int what, int x, int y) {
        switch (what) {
            case 0: return screen.look(x, y);
            case 1: return screen.near(x, y);
            case 2: return screen.far(x, y);
            case 3: return screen.kind(x, y);
            default: return screen.since(x, y);
        }
    }

    private static void noSuchTile() {
        String[] names = {"look", "near", "far", "kind", "since"};
        for (int k = 0; k < 5; k++) {
            int ask = k;
            for (int x : EDGES) {
                for (int y : EDGES) {
                    String what = shown(names[k], x, y);
                    Call call = on -> askTile(on, ask, x, y);
                    if (x < 0 || x > 7 || y < 0 || y > 5) refused(what, INDEX, call);
                    else taken(what, new FarScreen(), call, ask == 4 ? FarScreen.NONE : 0);
                }
            }
        }
    }

    // ---- one argument

    private static void noSuchBudget() {
        for (int budget : new int[] {LEAST, LEAST + 1, -300, -1, 301, 302, 512, 65536, MOST - 1, MOST}) {
            refused(shown("step", budget), ARGUMENT, on -> on.step(budget));
            refused(shown("stepsToGo", budget), ARGUMENT, on -> on.stepsToGo(budget));
        }
        for (int budget = 0; budget <= 300; budget++) {
            int allowed = budget;
            taken(shown("step", budget), new FarScreen(), on -> on.step(allowed), 0);
            taken(shown("stepsToGo", budget), new FarScreen(), on -> on.stepsToGo(allowed), 0);
        }
    }

    /** The states know none, some and eight pictures; here each number of them has its own object beside that. */
    private static void noSuchKnownPicture() {
        for (int place : new int[] {LEAST, LEAST + 1, -2, -1, 8, 9, 48, MOST - 1, MOST}) {
            refused(shown("known", place), INDEX, on -> on.known(place));
        }
        for (int state = 0; state < STATES; state++) {
            int count = made(state).knownPictures();
            refusedIn(state, shown("known", count) + " of " + count, INDEX, on -> on.known(count));
        }
        for (int count = 0; count <= 8; count++) {
            FarScreen screen = new FarScreen();
            for (int k = 0; k < count; k++) screen.fill(k, 0, 1, 1, 30 + k);
            screen.step(300);
            String ahead = now(screen);
            for (int place = -2; place <= 10; place++) {
                int asked = place;
                String what = shown("known", place) + " of " + count;
                if (place < 0 || place >= count) {
                    checkThrown(what, thrownBy(screen, on -> on.known(asked)), INDEX);
                } else {
                    taken(what, screen, on -> on.known(asked), 29 + count - place);
                }
            }
            if (!now(screen).equals(ahead)) {
                wrong++;
                System.out.println("known of " + count + " changed something");
            }
        }
    }

    private static void noSuchWay() {
        for (int what : new int[] {LEAST, LEAST + 1, -2, -1, 4, 5, 8, 1000, MOST - 1, MOST}) {
            refused(shown("sent", what), ARGUMENT, on -> on.sent(what));
        }
        int[] ways = {FarScreen.MOVE, FarScreen.KNOWN, FarScreen.ROUGH, FarScreen.WHOLE};
        for (int what : ways) taken(shown("sent", what), new FarScreen(), on -> on.sent(what), 0);
    }
}
