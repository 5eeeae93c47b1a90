/**
 * Each sentence of the document that names a boundary, by a test of its own: one ahead of it, on it, one beyond it.
 * What calls refuse stands in RefusedCallsTest.
 */
public final class BoundariesTest {
    private static int wrong = 0;
    private static String sentence = "";

    private static void due(String what, long got, long want) {
        if (got != want) {
            wrong++;
            if (wrong > 50) return;
            System.out.println("\"" + sentence + "\": " + what + " answered " + got + ", due is " + want);
        }
    }

    private static int near(FarScreen screen, int tile) {
        return screen.near(tile % 8, tile / 8);
    }

    private static int far(FarScreen screen, int tile) {
        return screen.far(tile % 8, tile / 8);
    }

    private static int kind(FarScreen screen, int tile) {
        return screen.kind(tile % 8, tile / 8);
    }

    private static int since(FarScreen screen, int tile) {
        return screen.since(tile % 8, tile / 8);
    }

    private static int draw(FarScreen screen, int tile, int picture) {
        return screen.fill(tile % 8, tile / 8, 1, 1, picture);
    }

    private static int lookAt(FarScreen screen, int tile) {
        return screen.look(tile % 8, tile / 8);
    }

    private static int moveTile(FarScreen screen, int from, int to) {
        return screen.move(from % 8, from / 8, 1, 1, to % 8, to / 8);
    }

    private static void pass(FarScreen screen, int steps) {
        for (int k = 0; k < steps; k++) screen.step(0);
    }

    /** The tile changes in four steps, the last of which comes still: it is a film with the picture that is given. */
    private static void makeFilm(FarScreen screen, int tile, int picture) {
        int other = 1;
        while (other == picture || other == near(screen, tile)) other++;
        for (int k = 0; k < 3; k++) {
            draw(screen, tile, k == 1 ? other + 1 : other);
            screen.step(0);
        }
        draw(screen, tile, picture);
    }

    /** So many pictures from the first on are known then, the latest one first; the tiles from 40 on take them. */
    private static void makeKnown(FarScreen screen, int first, int count) {
        for (int k = 0; k < count; k++) {
            draw(screen, 40 + k, first + k);
            screen.step(6);
        }
    }

    public static void main(String[] args) {
        lastCall();
        terms();
        films();
        moves();
        knownPictures();
        steps();
        promises();
        System.out.println(wrong == 0 ? "all boundaries are as due" : wrong + " answers are not as due");
        if (wrong != 0) System.exit(1);
    }

    private static void lastCall() {
        sentence = "An object is used for at most 512 calls";
        FarScreen screen = new FarScreen();
        for (int k = 0; k < 170; k++) {
            draw(screen, k % 48, 1 + k);
            lookAt(screen, (k + 1) % 48);
            screen.step(300);
        }
        due("the 511th call, time", screen.time(), 170);
        due("the 512th call, used", screen.used(), 63 * 2 + 107 * 6);
        FarScreen steps = new FarScreen();
        draw(steps, 47, 255);
        pass(steps, 509);
        due("since behind 509 steps", since(steps, 47), 0);
        due("the 512th call, a step", steps.step(6), 6);
        FarScreen dear = new FarScreen();
        for (int k = 0; k < 511; k++) draw(dear, k % 48, 1 + k / 11);
        due("the 512th call, stepsToGo", dear.stepsToGo(300), 1);
    }

    // ---- terms

    private static void terms() {
        tileNumbers();
        pictures();
        alikeTiles();
        timeOfSteps();
        changesInAStep();
    }

    private static void tileNumbers() {
        sentence = "the tile in the column x and the row y has the number 8 times y, and x";
        for (int y = 0; y < 6; y++) {
            for (int x = 0; x < 8; x++) {
                FarScreen screen = new FarScreen();
                due("fill of one tile", screen.fill(x, y, 1, 1, 9), 1);
                due("unlike of (" + x + ", " + y + ")", screen.unlike(), 1L << 8 * y + x);
                due("first look", screen.look(x, y), 0);
                due("second look", screen.look(x, y), 8 * y + x);
            }
        }
    }

    private static void pictures() {
        sentence = "Each tile of the near screen has a picture, 0 to 255, at first 0";
        FarScreen screen = new FarScreen();
        for (int tile = 0; tile < 48; tile++) {
            due("near at first", near(screen, tile), 0);
            due("far at first", far(screen, tile), 0);
        }
        for (int picture = 0; picture <= 255; picture++) {
            due("unlike with the picture " + picture, draw(screen, 47, picture), picture == 0 ? 0 : 1);
        }
        due("near with the last picture", near(screen, 47), 255);
    }

    private static void alikeTiles() {
        sentence = "A tile is alike if the far one has the picture of the near one, otherwise unlike";
        for (int picture : new int[] {16, 31}) {
            FarScreen screen = new FarScreen();
            makeFilm(screen, 5, picture);
            screen.step(2);
            due("far of a rough one", far(screen, 5), 1001);
            due("a rough one of its own sixteenth is unlike", screen.unlike(), 32);
            due("a rough one is unlike since it was drawn", since(screen, 5), 0);
            draw(screen, 5, 0);
            due("a rough one is unlike with the picture of ahead, too", screen.unlike(), 32);
        }
        sentence = "otherwise unlike, since the time at which it became so last";
        FarScreen screen = new FarScreen();
        screen.step(0);
        draw(screen, 5, 7);
        due("since at once", since(screen, 5), 1);
        screen.step(0);
        draw(screen, 5, 8);
        due("since with another picture", since(screen, 5), 1);
        draw(screen, 5, 0);
        due("since when alike", since(screen, 5), FarScreen.NONE);
        draw(screen, 5, 8);
        due("since when unlike again at the same time", since(screen, 5), 2);
        screen.step(300);
        due("since when sent", since(screen, 5), FarScreen.NONE);
        draw(screen, 5, 7);
        due("since when unlike for the third time", since(screen, 5), 3);
    }

    private static void timeOfSteps() {
        sentence = "Time is the number of steps so far";
        FarScreen screen = new FarScreen();
        int[] budgets = {0, 300, -1, 1, 301, 0, 2};
        int[] times = {1, 2, 2, 3, 3, 4, 5};
        for (int k = 0; k < budgets.length; k++) {
            stepOrRefusal(screen, budgets[k]);
            due("time behind the step with " + budgets[k], screen.time(), times[k]);
            draw(screen, 0, k);
            screen.stepsToGo(300);
            due("time behind other calls", screen.time(), times[k]);
        }
    }

    private static void stepOrRefusal(FarScreen screen, int budget) {
        try {
            screen.step(budget);
        } catch (IllegalArgumentException refused) {
            due("refusal of " + budget, budget < 0 || budget > 300 ? 1 : 0, 1);
        }
    }

    /** The tile 9 changed in three steps, and lies still: it takes one change more to make it a film. */
    private static FarScreen threeChanges() {
        FarScreen screen = new FarScreen();
        for (int k = 1; k <= 3; k++) {
            draw(screen, 9, k);
            screen.step(0);
        }
        return screen;
    }

    private static void changesInAStep() {
        sentence = "if a drawing call behind the step before gave it another picture than it had just ahead of that call";
        FarScreen own = threeChanges();
        draw(own, 9, 3);
        moveTile(own, 9, 10);
        moveTile(own, 10, 9);
        due("kind with its own picture by three calls", kind(own, 9), FarScreen.LETTER);
        FarScreen toAndFro = threeChanges();
        draw(toAndFro, 9, 4);
        draw(toAndFro, 9, 3);
        due("kind behind a change to and fro", kind(toAndFro, 9), FarScreen.FILM);
        FarScreen often = new FarScreen();
        for (int k = 1; k <= 9; k++) draw(often, 9, k);
        due("kind behind nine changes ahead of one step", kind(often, 9), FarScreen.LETTER);
        FarScreen moved = threeChanges();
        moveTile(moved, 0, 9);
        due("kind by a move", kind(moved, 9), FarScreen.FILM);
        due("kind of the tile from which it came", kind(moved, 0), FarScreen.LETTER);
        FarScreen told = threeChanges();
        moveTile(told, 0, 10);
        screenOfToldMove(told);
        FarScreen untold = threeChanges();
        for (int k = 0; k < 4; k++) moveTile(untold, 0, 1);
        moveTile(untold, 0, 9);
        due("kind by a move that is not told as such", kind(untold, 9), FarScreen.FILM);
        FarScreen sent = threeChanges();
        sent.step(300);
        due("far when it is sent", far(sent, 9), 3);
        due("kind when it is sent", kind(sent, 9), FarScreen.LETTER);
        draw(sent, 9, 4);
        due("kind with the fourth change behind that", kind(sent, 9), FarScreen.FILM);
    }

    /** What is told changes the far screen alone: the tile 10 changes in one step only, and the tile 9 in none more. */
    private static void screenOfToldMove(FarScreen screen) {
        screen.step(300);
        screen.step(300);
        due("kind of a tile beside one to which a block was moved", kind(screen, 9), FarScreen.LETTER);
        for (int k = 1; k <= 2; k++) {
            draw(screen, 10, 20 + k);
            screen.step(0);
        }
        due("kind of a tile that changed in two steps, and by no telling", kind(screen, 10), FarScreen.LETTER);
        draw(screen, 10, 30);
        due("kind of it with the third", kind(screen, 10), FarScreen.LETTER);
    }

    // ---- kinds

    private static void films() {
        filmOfEightSteps();
        filmByFillAndMove();
        letterBelow64();
    }

    /** All ways of changing in ten steps, the last of which comes still. */
    private static void filmOfEightSteps() {
        sentence = "a FILM if it changed in at least four of the latest eight steps";
        for (int way = 0; way < 1 << 10; way++) {
            FarScreen screen = new FarScreen();
            for (int k = 0; k < 10; k++) {
                if (k > 0) screen.step(0);
                if ((way >> k & 1) == 1) draw(screen, 20, 100 + k);
            }
            boolean film = Integer.bitCount(way >> 2) >= 4;
            int still = way == 0 ? FarScreen.LETTER : FarScreen.PICTURE;
            due("kind by the way " + Integer.toBinaryString(way), kind(screen, 20), film ? FarScreen.FILM : still);
            screen.step(0);
            boolean filmThen = Integer.bitCount(way >> 3) >= 4;
            due("kind a step on", kind(screen, 20), filmThen ? FarScreen.FILM : still);
        }
    }

    /** In the step itself it is that step that is the latest. */
    private static void filmByFillAndMove() {
        sentence = "the one that comes next counted as the latest";
        for (int changes = 3; changes <= 4; changes++) {
            FarScreen screen = new FarScreen();
            for (int k = 0; k < changes; k++) {
                if (k > 0) screen.step(0);
                draw(screen, 20, 100 + k);
            }
            screen.step(300);
            due("far behind " + changes + " changes", far(screen, 20), changes == 4 ? 1006 : 102);
        }
        for (int rest = 4; rest <= 5; rest++) {
            FarScreen screen = new FarScreen();
            makeFilm(screen, 20, 103);
            pass(screen, rest);
            screen.step(300);
            due("far " + rest + " steps behind the film", far(screen, 20), rest == 4 ? 1006 : 103);
        }
    }

    private static void letterBelow64() {
        sentence = "otherwise LETTER if its picture is below 64, otherwise PICTURE";
        for (int picture = 0; picture <= 255; picture++) {
            FarScreen screen = new FarScreen();
            draw(screen, 1, picture);
            due("kind of the picture " + picture, kind(screen, 1), picture < 64 ? FarScreen.LETTER : FarScreen.PICTURE);
            FarScreen film = new FarScreen();
            makeFilm(film, 1, picture);
            due("kind of a film of the picture " + picture, kind(film, 1), FarScreen.FILM);
        }
    }

    // ---- moves

    private static void moves() {
        allMoves();
        fewerThanFour();
        asFarAsTheBudget();
        allTilesAtOnce();
        roughTilesMoved();
        ifNoMoveWaitsThen();
    }

    private static FarScreen screenOfUnlikePictures() {
        FarScreen screen = new FarScreen();
        for (int tile = 0; tile < 48; tile++) draw(screen, tile, 100 + tile);
        screen.step(300);
        return screen;
    }

    /** Each block to each place within the screen: also those that lie over one another. */
    private static void allMoves() {
        sentence = "the tiles of the near screen at which it comes to have the pictures that its tiles had ahead of that";
        for (int width = 1; width <= 8; width++) {
            for (int height = 1; height <= 6; height++) {
                int places = (9 - width) * (7 - height);
                for (int k = 0; k < places * places; k++) {
                    int from = k / places;
                    int to = k % places;
                    int across = 9 - width;
                    if (from != to) oneMove(from % across, from / across, width, height, to % across, to / across);
                }
            }
        }
    }

    private static void oneMove(int x, int y, int width, int height, int toX, int toY) {
        FarScreen screen = screenOfUnlikePictures();
        due("first move", screen.move(x, y, width, height, toX, toY), 1);
        long changed = 0;
        for (int tile = 0; tile < 48; tile++) {
            int column = tile % 8 - toX;
            int row = tile / 8 - toY;
            boolean inside = column >= 0 && column < width && row >= 0 && row < height;
            int want = inside ? 100 + 8 * (y + row) + x + column : 100 + tile;
            if (inside) changed |= 1L << tile;
            due("near of the tile " + tile, near(screen, tile), want);
        }
        due("unlike tiles of a move", screen.unlike(), changed);
        due("step that tells it", screen.step(2), 2);
        due("unlike tiles of a move that is told", screen.unlike(), 0);
        due("move that waits then", screen.waiting(), 0);
    }

    private static void fewerThanFour() {
        sentence = "If fewer than 4 moves wait, the move waits to be told; otherwise it is not told as such";
        FarScreen screen = new FarScreen();
        for (int k = 1; k <= 6; k++) {
            draw(screen, 0, 10 + k);
            due("move " + k, moveTile(screen, 0, 8 * (k % 6) + 2), Math.min(k, 4));
            due("waiting behind the move " + k, screen.waiting(), Math.min(k, 4));
            due("near by the move " + k, near(screen, 8 * (k % 6) + 2), 10 + k);
        }
        due("step that tells one", screen.step(2), 2);
        due("waiting behind that", screen.waiting(), 3);
        due("the fourth may wait again", moveTile(screen, 0, 1), 4);
        due("the fifth may not", moveTile(screen, 0, 7), 4);
        FarScreen alike = new FarScreen();
        for (int k = 0; k < 4; k++) moveTile(alike, 0, 1);
        draw(alike, 9, 5);
        moveTile(alike, 9, 10);
        due("step that tells the four", alike.step(8), 8);
        due("far by a move that is not told", far(alike, 10), 0);
        due("unlike tiles by a move that is not told", alike.unlike(), 3L << 9);
        due("moves told", alike.sent(FarScreen.MOVE), 4);
        due("step behind that", alike.step(300), 3);
        due("moves told in all", alike.sent(FarScreen.MOVE), 4);
    }

    /** Each move copies one tile on: how many were told shows at the far end. */
    private static void asFarAsTheBudget() {
        sentence = "Moves that wait are told in their order, each for 2, as long as the budget reaches";
        for (int moves = 0; moves <= 4; moves++) {
            for (int budget = 0; budget <= 9; budget++) {
                FarScreen screen = new FarScreen();
                draw(screen, 0, 9);
                screen.step(2);
                for (int k = 0; k < moves; k++) moveTile(screen, k, k + 1);
                int told = Math.min(moves, budget / 2);
                String with = " of " + moves + " with " + budget;
                due("step" + with, screen.step(budget), 2 * told);
                due("waiting" + with, screen.waiting(), moves - told);
                due("sent(MOVE)" + with, screen.sent(FarScreen.MOVE), told);
                due("used" + with, screen.used(), 2 + 2 * told);
                for (int k = 1; k <= 4; k++) due("far of " + k + with, far(screen, k), k <= told ? 9 : 0);
                due("step for the others" + with, screen.step(8), 2 * (moves - told));
                due("unlike behind both" + with, screen.unlike(), 0);
            }
        }
        sentence = "Moves that wait are told in their order";
        FarScreen order = new FarScreen();
        draw(order, 0, 9);
        order.step(2);
        moveTile(order, 0, 1);
        moveTile(order, 8, 0);
        order.step(4);
        due("far of the tile to which the first came", far(order, 1), 9);
        due("far of the tile to which the second came", far(order, 0), 0);
    }

    private static void allTilesAtOnce() {
        sentence = "told ones do to the far screen what they did to the near one, all tiles at once";
        int[][] moves = {
            {0, 0, 1, 0}, {1, 0, 0, 0}, {0, 0, 0, 1}, {0, 1, 0, 0}, {0, 0, 1, 1}, {1, 0, 0, 1}, {1, 1, 0, 0}};
        for (int[] m : moves) {
            FarScreen screen = screenOfUnlikePictures();
            screen.fill(0, 0, 8, 6, 50);
            screen.move(m[0], m[1], 7, 5, m[2], m[3]);
            due("step that tells it", screen.step(2), 2);
            for (int tile = 0; tile < 48; tile++) {
                int column = tile % 8 - m[2];
                int row = tile / 8 - m[3];
                boolean inside = column >= 0 && column < 7 && row >= 0 && row < 5;
                int want = inside ? 100 + 8 * (m[1] + row) + m[0] + column : 100 + tile;
                due("far of the tile " + tile, far(screen, tile), want);
            }
            due("unlike tiles of another near screen", screen.unlike(), (1L << 48) - 1);
        }
    }

    private static void roughTilesMoved() {
        sentence = "tiles that are rough are moved as they are";
        FarScreen screen = new FarScreen();
        makeFilm(screen, 0, 250);
        screen.step(2);
        due("rough ahead", screen.rough(), 1);
        moveTile(screen, 0, 47);
        moveTile(screen, 1, 0);
        due("step that tells one", screen.step(2), 2);
        due("far of it", far(screen, 47), 1015);
        due("rough behind the first", screen.rough(), 2);
        due("unlike of both", screen.unlike(), 1L << 47 | 1);
        due("step that tells the other", screen.step(2), 2);
        due("far of a tile over which another one came", far(screen, 0), 0);
        due("rough behind the second", screen.rough(), 1);
        due("unlike of one", screen.unlike(), 1L << 47);
    }

    private static void ifNoMoveWaitsThen() {
        sentence = "If no move waits then, the unlike tiles are gone through";
        for (int moves = 1; moves <= 4; moves++) {
            for (int budget = 0; budget <= 10; budget++) {
                FarScreen screen = new FarScreen();
                draw(screen, 40, 9);
                screen.step(2);
                draw(screen, 47, 9);
                for (int k = 0; k < moves; k++) moveTile(screen, 0, 1);
                int told = Math.min(moves, budget / 2);
                boolean sent = told == moves && budget > 2 * told;
                String with = " of " + moves + " moves and a known picture with " + budget;
                due("step" + with, screen.step(budget), 2 * told + (sent ? 1 : 0));
                due("far" + with, far(screen, 47), sent ? 9 : 0);
            }
        }
    }

    // ---- known pictures

    private static void knownPictures() {
        atMostEight();
        metAgain();
        metByEachWay();
    }

    private static void atMostEight() {
        sentence = "at most 8 unlike pictures, the latest first, none at first";
        FarScreen screen = new FarScreen();
        due("known pictures at first", screen.knownPictures(), 0);
        for (int k = 1; k <= 12; k++) {
            draw(screen, k, 20 + k);
            due("step that meets the picture " + k, screen.step(300), 2);
            due("known pictures", screen.knownPictures(), Math.min(k, 8));
            for (int place = 0; place < Math.min(k, 8); place++) {
                due("known(" + place + ") of " + k, screen.known(place), 20 + k - place);
            }
        }
        sentence = "none at first";
        FarScreen zero = new FarScreen();
        draw(zero, 0, 200);
        zero.step(6);
        draw(zero, 0, 0);
        due("step with the picture 0, that was there at first but is not known", zero.step(1), 0);
        due("step with it for 2", zero.step(2), 2);
        due("way of it", zero.sent(FarScreen.WHOLE), 2);
        sentence = "if there were 9 then, the last one is forgotten";
        FarScreen nine = new FarScreen();
        makeKnown(nine, 30, 8);
        draw(nine, 0, 38);
        due("step that meets the ninth", nine.step(300), 2);
        due("known pictures", nine.knownPictures(), 8);
        due("known(7)", nine.known(7), 31);
        draw(nine, 1, 31);
        draw(nine, 2, 30);
        due("step with the eighth and the forgotten one", nine.step(300), 1 + 2);
    }

    /** Of each number of known pictures that at each place is met again: the others keep their order behind it. */
    private static void metAgain() {
        sentence = "A picture that is met comes first in the row";
        for (int count = 1; count <= 8; count++) {
            for (int place = 0; place < count; place++) {
                FarScreen screen = new FarScreen();
                makeKnown(screen, 60, count);
                draw(screen, 0, 59 + count - place);
                due("step that meets it again", screen.step(1), 1);
                due("known pictures", screen.knownPictures(), count);
                due("known(0)", screen.known(0), 59 + count - place);
                for (int k = 1; k < count; k++) {
                    int ahead = k <= place ? k - 1 : k;
                    due("known(" + k + ") with that of " + place + " first", screen.known(k), 59 + count - ahead);
                }
            }
        }
    }

    private static void metByEachWay() {
        sentence = "the far tile has the picture, which is met";
        FarScreen screen = new FarScreen();
        makeKnown(screen, 70, 2);
        draw(screen, 0, 70);
        screen.step(300);
        due("met by KNOWN", screen.known(0), 70);
        draw(screen, 1, 90);
        screen.step(300);
        due("met by WHOLE", screen.known(0), 90);
        makeFilm(screen, 2, 150);
        due("step with ROUGH", screen.step(300), 2);
        due("not met by ROUGH", screen.known(0), 90);
        screen.fill(3, 0, 1, 1, 160);
        moveTile(screen, 40, 4);
        screen.step(2);
        due("not met by MOVE", screen.known(0), 90);
        due("known pictures", screen.knownPictures(), 3);
    }

    // ---- steps

    private static void steps() {
        lookedAtClose();
        fiveMore();
        lowestNumber();
        worthIsAge();
        passedOver();
        knownGoesFirst();
        dividedBy16();
        roughAlready();
        costsOfWhole();
        worthsBehindTheFirstPart();
        knownOfTheTurn();
        timeGrowsAtTheEnd();
        unlikeSinceThen();
    }

    private static boolean close(int tile, int other) {
        return Math.abs(tile % 8 - other % 8) <= 1 && Math.abs(tile / 8 - other / 8) <= 1;
    }

    /** A tile that is not close to the one that is looked at, the first from a place on. */
    private static int notClose(int lookedAt, int from, int but) {
        for (int k = 0; k < 48; k++) {
            int tile = (from + k) % 48;
            if (tile != but && !close(tile, lookedAt)) return tile;
        }
        throw new IllegalStateException("each tile is close");
    }

    /** Each tile with each look, against one that is older by four and so goes first unless 5 are added. */
    private static void lookedAtClose() {
        sentence = "5 more if its column and its row are both at most 1 away from the place that is looked at";
        for (int lookedAt = 0; lookedAt < 48; lookedAt++) {
            for (int tile = 0; tile < 48; tile++) {
                int other = notClose(lookedAt, tile * 7, tile);
                int[] first = twoTiles(lookedAt, other, tile, 4);
                boolean goesFirst = close(tile, lookedAt);
                due("far of " + tile + " with the look at " + lookedAt, first[1], goesFirst ? 2 : 0);
                due("far of " + other + " with the look at " + lookedAt, first[0], goesFirst ? 0 : 1);
            }
        }
    }

    /** What the far screen has of two letters, one so much older, behind a step that reaches for one of them. */
    private static int[] twoTiles(int lookedAt, int older, int younger, int by) {
        FarScreen screen = new FarScreen();
        lookAt(screen, lookedAt);
        draw(screen, older, 1);
        pass(screen, by);
        draw(screen, younger, 2);
        due("step for one of two", screen.step(3), 2);
        return new int[] {far(screen, older), far(screen, younger)};
    }

    private static void fiveMore() {
        sentence = "5 more if";
        for (int by = 0; by <= 8; by++) {
            boolean ahead = by < 5;
            due("tile 0 that is looked at against 47, older by " + by, twoTiles(0, 47, 0, by)[1], by <= 5 ? 2 : 0);
            due("tile 47 that is looked at against 0, older by " + by, twoTiles(47, 0, 47, by)[1], ahead ? 2 : 0);
            due("both looked at, older by " + by, twoTiles(0, 9, 8, by)[1], by == 0 ? 2 : 0);
        }
        due("the place that is looked at first is the tile 0", oldOneAgainstFirst(), 2);
    }

    private static int oldOneAgainstFirst() {
        FarScreen screen = new FarScreen();
        draw(screen, 30, 1);
        pass(screen, 4);
        draw(screen, 9, 2);
        screen.step(2);
        return far(screen, 9);
    }

    private static void lowestNumber() {
        sentence = "the greatest first, of several the lowest number";
        for (int lookedAt : new int[] {0, 7, 19, 40, 47}) {
            FarScreen screen = new FarScreen();
            lookAt(screen, lookedAt);
            for (int tile = 47; tile >= 0; tile--) draw(screen, tile, 1 + tile);
            long left = (1L << 48) - 1;
            for (int k = 0; k < 48; k++) {
                int next = nextOf(left, lookedAt);
                left &= ~(1L << next);
                screen.step(2);
                due("unlike behind the turn of " + next + " with the look at " + lookedAt, screen.unlike(), left);
            }
        }
        sentence = "of several the lowest number";
        for (int tile = 0; tile < 47; tile++) {
            int lookedAt = tile < 24 ? 47 : 0;
            if (close(tile, lookedAt) != close(tile + 1, lookedAt)) continue;
            due("the lower one, " + tile, twoTiles(lookedAt, tile + 1, tile, 0)[1], 2);
            due("the higher one, " + (tile + 1), twoTiles(lookedAt, tile, tile + 1, 0)[1], 0);
        }
    }

    /** Of tiles of one age: those that are looked at, then the others, each by number. */
    private static int nextOf(long left, int lookedAt) {
        for (int tile = 0; tile < 48; tile++) {
            if ((left >> tile & 1) == 1 && close(tile, lookedAt)) return tile;
        }
        return Long.numberOfTrailingZeros(left);
    }

    private static void worthIsAge() {
        sentence = "the worth is the time less the time since which it is unlike";
        due("one older by one goes first", twoTiles(0, 47, 30, 1)[0], 1);
        due("one older by one goes first", twoTiles(47, 20, 2, 1)[0], 1);
        FarScreen young = new FarScreen();
        lookAt(young, 47);
        draw(young, 5, 1);
        young.step(0);
        draw(young, 8, 2);
        young.step(0);
        draw(young, 5, 0);
        draw(young, 5, 1);
        young.step(2);
        due("one that was alike for a while is young again", young.unlike(), 32);
        FarScreen old = new FarScreen();
        lookAt(old, 47);
        draw(old, 5, 1);
        old.step(0);
        draw(old, 3, 2);
        draw(old, 5, 3);
        old.step(2);
        due("one that got another picture is as old as ahead", old.unlike(), 8);
    }

    /** The costs in order are 6, 2, 6, 2, 2 and 6, all of unlike pictures. */
    private static void passedOver() {
        sentence = "that is sent for which the budget still reaches, one that it does not reach for is passed over";
        int[] pictures = {64, 63, 65, 62, 61, 66};
        for (int budget = 0; budget <= 30; budget++) {
            FarScreen screen = new FarScreen();
            lookAt(screen, 47);
            for (int tile = 0; tile < 6; tile++) draw(screen, tile, pictures[tile]);
            int left = budget;
            int used = screen.step(budget);
            for (int tile = 0; tile < 6; tile++) {
                int cost = pictures[tile] < 64 ? 2 : 6;
                boolean sent = cost <= left;
                if (sent) left -= cost;
                due("far of " + tile + " with " + budget, far(screen, tile), sent ? pictures[tile] : 0);
            }
            due("step with " + budget, used, budget - left);
            due("used", screen.used(), budget - left);
        }
    }

    private static void knownGoesFirst() {
        sentence = "KNOWN, for 1, if its picture is known";
        for (int picture : new int[] {63, 64}) {
            for (int film = 0; film <= 1; film++) {
                FarScreen screen = new FarScreen();
                draw(screen, 47, picture);
                screen.step(6);
                if (film == 1) makeFilm(screen, 0, picture);
                else draw(screen, 0, picture);
                due("step with 0", screen.step(0), 0);
                due("far behind that", far(screen, 0), 0);
                if (film == 1) due("kind", kind(screen, 0), FarScreen.FILM);
                due("step with 1", screen.step(1), 1);
                due("far behind that", far(screen, 0), picture);
                due("sent(KNOWN)", screen.sent(FarScreen.KNOWN), 1);
                due("sent(ROUGH)", screen.sent(FarScreen.ROUGH), 0);
                due("sent(WHOLE)", screen.sent(FarScreen.WHOLE), 1);
            }
        }
    }

    private static void dividedBy16() {
        sentence = "the far tile is rough with its picture divided by 16, rounded down";
        for (int picture = 0; picture <= 255; picture++) {
            FarScreen screen = new FarScreen();
            draw(screen, 30, (picture + 1) % 256);
            screen.step(6);
            makeFilm(screen, 30, picture);
            int whole = screen.sent(FarScreen.WHOLE);
            due("step with 1 for ROUGH", screen.step(1), 0);
            due("step with 2 for ROUGH", screen.step(2), 2);
            due("far of the picture " + picture, far(screen, 30), 1000 + picture / 16);
            due("rough", screen.rough(), 1);
            due("sent(ROUGH)", screen.sent(FarScreen.ROUGH), 1);
            due("sent(WHOLE)", screen.sent(FarScreen.WHOLE), whole);
        }
    }

    private static void roughAlready() {
        sentence = "nothing is sent if it is so already";
        FarScreen screen = new FarScreen();
        lookAt(screen, 0);
        makeFilm(screen, 0, 160);
        due("step with 2", screen.step(2), 2);
        int[] pictures = {175, 160, 159, 144, 143};
        int[] sixteenths = {1010, 1010, 1009, 1009, 1008};
        int sent = 1;
        for (int k = 0; k < pictures.length; k++) {
            boolean other = k == 2 || k == 4;
            draw(screen, 0, pictures[k]);
            draw(screen, 40 + k, 1 + k);
            due("step with the picture " + pictures[k], screen.step(3), 2);
            if (other) sent++;
            due("far with it", far(screen, 0), sixteenths[k]);
            due("sent(ROUGH)", screen.sent(FarScreen.ROUGH), sent);
            due("what is left goes to the next tile", far(screen, 40 + k), other ? 0 : 1 + k);
            if (other) screen.step(2);
        }
        due("step when no other tile is unlike", screen.step(300), 0);
        due("unlike as before", screen.unlike(), 1);
    }

    private static void costsOfWhole() {
        sentence = "WHOLE, for 2 for a LETTER, and 6 for a PICTURE";
        for (int picture = 1; picture <= 255; picture++) {
            int cost = picture < 64 ? 2 : 6;
            for (int budget = cost - 1; budget <= cost + 1; budget++) {
                FarScreen screen = new FarScreen();
                draw(screen, 24, picture);
                boolean sent = budget >= cost;
                due("step with " + budget + " for " + picture, screen.step(budget), sent ? cost : 0);
                due("far of it", far(screen, 24), sent ? picture : 0);
                due("sent(WHOLE)", screen.sent(FarScreen.WHOLE), sent ? 1 : 0);
                due("known pictures", screen.knownPictures(), sent ? 1 : 0);
            }
        }
    }

    private static void worthsBehindTheFirstPart() {
        sentence = "Worths and orders are those behind the first part";
        FarScreen screen = new FarScreen();
        lookAt(screen, 47);
        draw(screen, 0, 9);
        screen.step(2);
        moveTile(screen, 0, 1);
        draw(screen, 1, 0);
        screen.step(0);
        draw(screen, 20, 8);
        screen.step(0);
        due("unlike ahead of the telling", screen.unlike(), 1L << 20);
        due("step that tells it and sends one", screen.step(4), 4);
        due("the one that the move makes unlike is the younger one", screen.unlike(), 2);
        FarScreen gone = new FarScreen();
        lookAt(gone, 47);
        draw(gone, 0, 9);
        gone.step(2);
        moveTile(gone, 0, 1);
        gone.step(0);
        draw(gone, 30, 8);
        due("unlike ahead of the telling", gone.unlike(), 1L << 30 | 2);
        due("the one that the move makes alike costs nothing", gone.step(4), 4);
        due("far of the other", far(gone, 30), 8);
        FarScreen young = new FarScreen();
        lookAt(young, 47);
        draw(young, 0, 9);
        young.step(2);
        moveTile(young, 0, 1);
        draw(young, 1, 0);
        draw(young, 2, 8);
        young.step(0);
        due("ahead of the telling", young.unlike(), 4);
        young.step(2);
        due("behind the telling", young.unlike(), 6);
        due("step for one of them", young.step(2), 2);
        due("the older one went first though its number is higher", young.unlike(), 2);
    }

    private static void knownOfTheTurn() {
        sentence = "kinds and known pictures are those of when it is the turn of a tile";
        FarScreen screen = new FarScreen();
        lookAt(screen, 47);
        draw(screen, 0, 80);
        draw(screen, 1, 80);
        draw(screen, 2, 80);
        due("step with 7 for one picture thrice", screen.step(7), 7);
        due("unlike behind that", screen.unlike(), 4);
        FarScreen forgotten = new FarScreen();
        makeKnown(forgotten, 30, 8);
        draw(forgotten, 0, 20);
        draw(forgotten, 1, 30);
        due("the last known one is forgotten by its turn", forgotten.step(3), 2);
        due("far of it", far(forgotten, 1), 0);
        FarScreen kept = new FarScreen();
        makeKnown(kept, 30, 8);
        draw(kept, 0, 30);
        draw(kept, 1, 20);
        draw(kept, 2, 30);
        due("the last known one is met and so kept till its turn", kept.step(4), 4);
        due("far of it", far(kept, 2), 30);
        FarScreen film = new FarScreen();
        lookAt(film, 47);
        makeFilm(film, 20, 70);
        draw(film, 47, 70);
        due("a film whose picture comes to be known by its turn", film.step(7), 7);
        due("far of it", far(film, 20), 70);
        FarScreen early = new FarScreen();
        makeFilm(early, 0, 70);
        draw(early, 47, 70);
        due("a film whose turn is ahead of that", early.step(8), 8);
        due("far of it", far(early, 0), 1004);
    }

    private static void timeGrowsAtTheEnd() {
        sentence = "The time grows by 1; the step is over, and which tiles changed in it is settled";
        FarScreen screen = new FarScreen();
        for (int k = 0; k < 3; k++) {
            draw(screen, 0, 90 + k);
            due("time ahead of the step", screen.time(), k);
            screen.step(0);
            due("time behind the step", screen.time(), k + 1);
        }
        due("three steps in which it changed", kind(screen, 0), FarScreen.PICTURE);
        screen.step(0);
        due("the next step has no change of its own", kind(screen, 0), FarScreen.PICTURE);
        draw(screen, 0, 1);
        due("a change behind that is one of the next step", kind(screen, 0), FarScreen.FILM);
    }

    private static void unlikeSinceThen() {
        sentence = "A tile that becomes unlike by a drawing call, or by a move that is told, is unlike since the time of then";
        FarScreen screen = new FarScreen();
        draw(screen, 0, 9);
        screen.step(2);
        moveTile(screen, 0, 1);
        due("since when it is moved", since(screen, 1), 1);
        draw(screen, 1, 0);
        due("since when it is drawn back", since(screen, 1), FarScreen.NONE);
        moveTile(screen, 0, 2);
        pass(screen, 2);
        due("since when nothing is told", since(screen, 2), 1);
        screen.step(2);
        due("since when the first is told", since(screen, 1), 3);
        due("since of the second", since(screen, 2), 1);
        screen.step(2);
        due("since when both are told", since(screen, 2), FarScreen.NONE);
        FarScreen stays = new FarScreen();
        draw(stays, 0, 9);
        stays.step(2);
        draw(stays, 1, 77);
        moveTile(stays, 0, 2);
        stays.step(0);
        draw(stays, 3, 5);
        stays.move(0, 0, 1, 1, 1, 0);
        draw(stays, 1, 78);
        stays.step(5);
        due("since of one that is unlike ahead of the telling and behind it", since(stays, 1), 1);
        due("far of it", far(stays, 1), 9);
        againInOneStep();
    }

    /** The first move makes the tile 1 alike, and the second makes it unlike again. */
    private static void againInOneStep() {
        FarScreen screen = new FarScreen();
        draw(screen, 0, 9);
        screen.step(2);
        moveTile(screen, 0, 1);
        moveTile(screen, 2, 1);
        draw(screen, 1, 9);
        screen.step(0);
        due("since the drawing", since(screen, 1), 1);
        due("step that tells both", screen.step(4), 4);
        due("since the telling of the second", since(screen, 1), 2);
    }

    // ---- promises

    private static void promises() {
        allBlocks();
        howManyUnlike();
        movesThatWait();
        tileBefore();
        sixteenths();
        budgets();
        sinceOrNone();
        unlikeSets();
        roughTiles();
        sentAndUsed();
        anew();
        stepsToGo();
        stepsToGoWithMoves();
        stepsToGoWithFilms();
        stepsToGoWithKnown();
        stepsToGoInOrder();
        stepsToGoOnTheWay();
        stepsToGoChangesNothing();
    }

    /** Each block within the screen, on a screen with another picture. */
    private static void allBlocks() {
        sentence = "so that it ends with the column 7 at the latest .. so that it ends with the row 5 at the latest";
        for (int from = 0; from < 48; from++) {
            for (int width = 1; width <= 8 - from % 8; width++) {
                for (int height = 1; height <= 6 - from / 8; height++) {
                    FarScreen screen = new FarScreen();
                    due("fill", screen.fill(from % 8, from / 8, width, height, 255), width * height);
                    for (int tile = 0; tile < 48; tile++) {
                        int column = tile % 8 - from % 8;
                        int row = tile / 8 - from / 8;
                        boolean inside = column >= 0 && column < width && row >= 0 && row < height;
                        due("near of " + tile, near(screen, tile), inside ? 255 : 0);
                    }
                }
            }
        }
    }

    private static void howManyUnlike() {
        sentence = "Returns how many tiles are unlike then";
        FarScreen screen = new FarScreen();
        for (int tile = 0; tile < 48; tile++) due("fill of " + tile, draw(screen, tile, 1), tile + 1);
        due("fill of all with another picture", screen.fill(0, 0, 8, 6, 2), 48);
        for (int tile = 0; tile < 48; tile++) due("fill of " + tile + " back", draw(screen, tile, 0), 47 - tile);
        due("fill of all with what is there", screen.fill(0, 0, 8, 6, 0), 0);
        draw(screen, 47, 5);
        due("fill of another tile with what is there", draw(screen, 0, 0), 1);
        screen.step(300);
        due("fill behind the step", draw(screen, 0, 1), 1);
    }

    private static void movesThatWait() {
        sentence = "Returns how many moves wait then";
        FarScreen screen = new FarScreen();
        for (int k = 0; k < 6; k++) {
            due("waiting ahead of it", screen.waiting(), Math.min(k, 4));
            due("move", moveTile(screen, 0, 47), Math.min(k + 1, 4));
        }
        for (int told = 1; told <= 5; told++) {
            screen.step(3);
            due("waiting behind " + told, screen.waiting(), Math.max(4 - told, 0));
        }
        due("move", moveTile(screen, 0, 47), 1);
    }

    private static void tileBefore() {
        sentence = "Returns the number of the tile that was looked at before";
        FarScreen screen = new FarScreen();
        int before = 0;
        for (int k = 0; k < 48; k++) {
            int tile = 29 * k % 48;
            due("look", lookAt(screen, tile), before);
            due("look again", lookAt(screen, tile), tile);
            before = tile;
        }
    }

    private static void sixteenths() {
        sentence = "Returns its picture; 1000 and its sixteenth, if it is rough";
        for (int picture : new int[] {0, 1, 15, 16, 239, 240, 254, 255}) {
            FarScreen screen = new FarScreen();
            draw(screen, 47, 100);
            screen.step(6);
            due("far of a whole one", far(screen, 47), 100);
            makeFilm(screen, 47, picture);
            screen.step(300);
            due("far of a rough one of " + picture, far(screen, 47), 1000 + picture / 16);
            pass(screen, 4);
            screen.step(300);
            due("far of it when it is fine", far(screen, 47), picture);
        }
    }

    private static void budgets() {
        sentence = "Returns how much of the budget was used";
        FarScreen screen = new FarScreen();
        due("step with 0 and nothing to send", screen.step(0), 0);
        due("step with 300 and nothing to send", screen.step(300), 0);
        for (int tile = 0; tile < 48; tile++) draw(screen, tile, 100 + tile);
        for (int k = 0; k < 4; k++) moveTile(screen, 47, 47 - 8 * (k + 1));
        for (int tile = 0; tile < 48; tile++) draw(screen, tile, 100 + tile);
        due("step with 0 and all to send", screen.step(0), 0);
        due("stepsToGo with one less than all", screen.stepsToGo(295), 2);
        due("stepsToGo with just all", screen.stepsToGo(296), 1);
        due("step with 300 and all to send", screen.step(300), 296);
        due("unlike", screen.unlike(), 0);
        for (int budget = 287; budget <= 289; budget++) {
            FarScreen all = new FarScreen();
            for (int tile = 0; tile < 48; tile++) draw(all, tile, 100 + tile);
            due("step with " + budget, all.step(budget), budget == 287 ? 282 : 288);
            due("unlike behind it", all.unlike(), budget == 287 ? 1L << 47 : 0);
        }
    }

    private static void sinceOrNone() {
        sentence = "Returns the time; NONE if it is alike";
        FarScreen screen = new FarScreen();
        for (int tile = 0; tile < 48; tile++) due("since at first", since(screen, tile), FarScreen.NONE);
        for (int tile = 0; tile < 48; tile++) {
            draw(screen, tile, 60 + tile);
            due("since of " + tile, since(screen, tile), tile);
            due("since of the tile before", tile == 0 ? 0 : since(screen, tile - 1), Math.max(tile - 1, 0));
            screen.step(0);
        }
        screen.step(300);
        for (int tile = 0; tile < 48; tile++) due("since when all is sent", since(screen, tile), FarScreen.NONE);
        due("NONE", FarScreen.NONE, -1);
    }

    private static void unlikeSets() {
        sentence = "Returns the unlike tiles, as a set: bit k for the tile k";
        FarScreen screen = new FarScreen();
        due("none", screen.unlike(), 0);
        for (int tile : new int[] {0, 1, 30, 31, 32, 33, 46, 47}) {
            draw(screen, tile, 5);
            due("the tile " + tile, screen.unlike(), 1L << tile);
            draw(screen, tile, 0);
            due("none again", screen.unlike(), 0);
        }
        draw(screen, 0, 5);
        draw(screen, 47, 5);
        due("the first and the last", screen.unlike(), 0x800000000001L);
        screen.fill(0, 0, 8, 6, 5);
        due("all", screen.unlike(), 0xFFFFFFFFFFFFL);
        draw(screen, 31, 0);
        due("all but 31", screen.unlike(), 0xFFFF7FFFFFFFL);
    }

    private static void roughTiles() {
        sentence = "Returns how many tiles of the far screen are rough";
        for (int budget = 0; budget <= 97; budget += budget < 4 ? 1 : 31) {
            FarScreen screen = new FarScreen();
            for (int k = 3; k >= 0; k--) {
                screen.fill(0, 0, 8, 6, 10 + 60 * k);
                if (k > 0) screen.step(0);
            }
            due("step with " + budget + " for films", screen.step(budget), Math.min(budget / 2, 48) * 2);
            due("rough by " + budget, screen.rough(), Math.min(budget / 2, 48));
        }
        FarScreen all = new FarScreen();
        for (int k = 0; k < 4; k++) {
            all.fill(0, 0, 8, 6, 250 - k);
            all.step(k < 3 ? 0 : 300);
        }
        due("all are rough", all.rough(), 48);
        due("all are unlike", all.unlike(), 0xFFFFFFFFFFFFL);
        pass(all, 4);
        all.step(6);
        due("rough when one is fine", all.rough(), 47);
        all.step(300);
        due("rough when all are fine", all.rough(), 0);
    }

    private static void sentAndUsed() {
        sentence = "Returns how much was sent so far .. Returns all that was used of budgets so far";
        FarScreen screen = new FarScreen();
        checkSent(screen, 0, 0, 0, 0, 0);
        draw(screen, 0, 63);
        screen.step(2);
        checkSent(screen, 0, 0, 0, 1, 2);
        draw(screen, 1, 64);
        screen.step(5);
        checkSent(screen, 0, 0, 0, 1, 2);
        screen.step(6);
        checkSent(screen, 0, 0, 0, 2, 8);
        moveTile(screen, 0, 8);
        screen.step(2);
        checkSent(screen, 1, 0, 0, 2, 10);
        draw(screen, 16, 64);
        screen.step(300);
        checkSent(screen, 1, 1, 0, 2, 11);
        makeFilm(screen, 24, 30);
        screen.step(300);
        checkSent(screen, 1, 1, 1, 2, 13);
        screen.step(300);
        checkSent(screen, 1, 1, 1, 2, 13);
        screen.stepsToGo(300);
        checkSent(screen, 1, 1, 1, 2, 13);
        pass(screen, 3);
        screen.step(300);
        checkSent(screen, 1, 1, 1, 3, 15);
    }

    private static void checkSent(FarScreen screen, int moves, int known, int rough, int whole, int used) {
        due("sent(MOVE)", screen.sent(FarScreen.MOVE), moves);
        due("sent(KNOWN)", screen.sent(FarScreen.KNOWN), known);
        due("sent(ROUGH)", screen.sent(FarScreen.ROUGH), rough);
        due("sent(WHOLE)", screen.sent(FarScreen.WHOLE), whole);
        due("used", screen.used(), used);
    }

    private static void anew() {
        sentence = "what it would cost to send the whole screen anew, each tile WHOLE, as a LETTER if its picture is below 64";
        for (int picture = 0; picture <= 255; picture++) {
            FarScreen screen = new FarScreen();
            screen.fill(0, 0, 8, 6, picture);
            due("anew of " + picture, screen.anew(), picture < 64 ? 96 : 288);
            screen.step(300);
            due("anew of known ones", screen.anew(), picture < 64 ? 96 : 288);
        }
        FarScreen mixed = new FarScreen();
        for (int tile = 0; tile < 48; tile++) {
            draw(mixed, tile, 64);
            due("anew up to the tile " + tile, mixed.anew(), 96 + 4 * (tile + 1));
        }
        FarScreen film = new FarScreen();
        makeFilm(film, 0, 63);
        due("anew of a film of a letter", film.anew(), 96);
        makeFilm(film, 0, 64);
        due("anew of a film of a picture", film.anew(), 100);
    }

    private static void stepsToGo() {
        sentence = "Returns the steps; 0 if it is so; NONE if there would have to be more than 100";
        FarScreen screen = new FarScreen();
        for (int budget = 0; budget <= 300; budget++) due("stepsToGo of nothing", screen.stepsToGo(budget), 0);
        for (int picture = 63; picture <= 64; picture++) {
            FarScreen one = new FarScreen();
            draw(one, 47, picture);
            int cost = picture < 64 ? 2 : 6;
            for (int budget = 0; budget <= 300; budget++) {
                due("stepsToGo of " + picture + " with " + budget, one.stepsToGo(budget), budget < cost ? -1 : 1);
            }
        }
        FarScreen letters = new FarScreen();
        for (int tile = 0; tile < 48; tile++) draw(letters, tile, 1 + tile);
        for (int budget = 0; budget <= 300; budget++) {
            int steps = budget < 2 ? FarScreen.NONE : ceiling(48, budget / 2);
            due("stepsToGo of 48 letters with " + budget, letters.stepsToGo(budget), steps);
        }
        FarScreen pictures = new FarScreen();
        for (int tile = 0; tile < 48; tile++) draw(pictures, tile, 101 + tile);
        for (int budget = 0; budget <= 300; budget++) {
            int steps = budget < 6 ? FarScreen.NONE : ceiling(48, budget / 6);
            due("stepsToGo of 48 pictures with " + budget, pictures.stepsToGo(budget), steps);
        }
    }

    private static int ceiling(int number, int divisor) {
        return (number + divisor - 1) / divisor;
    }

    private static void stepsToGoWithMoves() {
        sentence = "until all tiles are alike, and no move waits";
        for (int moves = 1; moves <= 4; moves++) {
            FarScreen idle = new FarScreen();
            FarScreen needed = new FarScreen();
            draw(needed, 0, 9);
            needed.step(2);
            for (int k = 0; k < moves; k++) {
                moveTile(idle, 0, 1);
                moveTile(needed, k, k + 1);
            }
            for (int budget = 0; budget <= 9; budget++) {
                int steps = budget < 2 ? FarScreen.NONE : ceiling(moves, budget / 2);
                due("stepsToGo of " + moves + " idle moves with " + budget, idle.stepsToGo(budget), steps);
                due("stepsToGo of " + moves + " moves with " + budget, needed.stepsToGo(budget), steps);
            }
        }
        FarScreen fifth = new FarScreen();
        for (int k = 0; k < 4; k++) moveTile(fifth, 0, 1);
        draw(fifth, 9, 5);
        moveTile(fifth, 9, 10);
        due("stepsToGo with a move that is not told as such", fifth.stepsToGo(8), 2);
        due("stepsToGo with it and just enough", fifth.stepsToGo(11), 1);
        due("stepsToGo with it and just not enough", fifth.stepsToGo(10), 2);
    }

    private static void stepsToGoWithFilms() {
        sentence = "until all tiles are alike, if nothing else was done";
        for (int changes = 3; changes <= 8; changes++) {
            for (int tile = 0; tile <= 48; tile++) {
                FarScreen film = new FarScreen();
                for (int k = 0; k < changes; k++) {
                    if (k > 0) film.step(0);
                    if (tile < 48) draw(film, tile, 40 + k);
                    else film.fill(0, 0, 8, 6, 40 + k);
                }
                String of = tile < 48 ? " of a tile with " + changes + " changes" : " of all with " + changes;
                due("stepsToGo with 300" + of, film.stepsToGo(300), changes < 4 ? 1 : 6);
                if (tile < 48) due("stepsToGo with 2" + of, film.stepsToGo(2), changes < 4 ? 1 : 6);
                due("stepsToGo with 1" + of, film.stepsToGo(1), FarScreen.NONE);
                due("stepsToGo with 0" + of, film.stepsToGo(0), FarScreen.NONE);
            }
        }
        sentence = "NONE if there would have to be more than 100";
        // The most steps that there can be: four moves, one film sent roughly, 48 letters, each by a step of its own.
        FarScreen most = new FarScreen();
        for (int k = 0; k < 8; k++) {
            if (k > 0) most.step(0);
            most.fill(0, 0, 8, 6, 200 + k);
        }
        for (int k = 0; k < 4; k++) moveTile(most, 0, 1);
        for (int tile = 0; tile < 48; tile++) draw(most, tile, 1 + tile);
        due("stepsToGo of the most", most.stepsToGo(2), 53);
        due("stepsToGo of the most with 3", most.stepsToGo(3), 53);
        due("stepsToGo of the most with 1", most.stepsToGo(1), FarScreen.NONE);
        for (int k = 0; k < 53; k++) most.step(2);
        due("unlike behind so many", most.unlike(), 0);
    }

    private static void stepsToGoWithKnown() {
        sentence = "Returns how many steps with a budget there would have to be";
        for (int picture : new int[] {30, 130}) {
            FarScreen screen = new FarScreen();
            makeKnown(screen, picture, 8);
            for (int k = 0; k < 8; k++) draw(screen, k, picture + k);
            due("stepsToGo of known ones with 0", screen.stepsToGo(0), FarScreen.NONE);
            for (int budget = 1; budget <= 9; budget++) {
                due("stepsToGo of known ones with " + budget, screen.stepsToGo(budget), ceiling(8, budget));
            }
        }
        FarScreen same = new FarScreen();
        same.fill(0, 0, 8, 6, 130);
        due("stepsToGo of one picture with 5", same.stepsToGo(5), FarScreen.NONE);
        due("stepsToGo of one picture with 6", same.stepsToGo(6), 9);
        due("stepsToGo of one picture with 52", same.stepsToGo(52), 2);
        due("stepsToGo of one picture with 53", same.stepsToGo(53), 1);
        FarScreen forgotten = new FarScreen();
        makeKnown(forgotten, 130, 8);
        draw(forgotten, 0, 9);
        draw(forgotten, 1, 130);
        due("stepsToGo of a known one that is forgotten by its turn", forgotten.stepsToGo(2), FarScreen.NONE);
        due("stepsToGo of it with 6", forgotten.stepsToGo(6), 2);
    }

    /** Only if the known picture goes first both are sent in one step: later it is forgotten. */
    private static void stepsToGoInOrder() {
        sentence = "Returns how many steps with a budget there would have to be, if nothing else was done";
        FarScreen looked = new FarScreen();
        makeKnown(looked, 30, 8);
        draw(looked, 1, 20);
        draw(looked, 31, 30);
        due("stepsToGo with the look at the tile 0", looked.stepsToGo(3), 2);
        lookAt(looked, 39);
        due("stepsToGo with the look at the known one", looked.stepsToGo(3), 1);
        FarScreen told = new FarScreen();
        lookAt(told, 47);
        draw(told, 1, 20);
        told.step(2);
        makeKnown(told, 30, 8);
        moveTile(told, 2, 1);
        draw(told, 1, 20);
        draw(told, 5, 30);
        due("unlike ahead of the telling", told.unlike(), 32);
        due("stepsToGo when both are unlike since one time", told.stepsToGo(5), 2);
        told.step(0);
        due("stepsToGo when the known one is older", told.stepsToGo(5), 1);
        due("step that tells one and sends two", told.step(5), 5);
        due("unlike behind that", told.unlike(), 0);
    }

    /** Each step takes one from what it answered ahead of that, with the same budget. */
    private static void stepsToGoOnTheWay() {
        sentence = "how many steps with a budget there would have to be";
        for (int budget = 6; budget <= 14; budget++) {
            FarScreen screen = new FarScreen();
            for (int tile = 0; tile < 48; tile++) draw(screen, tile, 50 + tile % 20);
            makeFilm(screen, 30, 222);
            for (int k = 0; k < 3; k++) screen.move(k, 0, 3, 3, k + 1, k);
            int steps = screen.stepsToGo(budget);
            due("more than none", steps > 5 ? 1 : 0, 1);
            for (int k = 0; k < steps; k++) {
                due("something is left to do", screen.unlike() != 0 || screen.waiting() > 0 ? 1 : 0, 1);
                due("stepsToGo on the way", screen.stepsToGo(budget), steps - k);
                screen.step(budget);
            }
            due("unlike in the end", screen.unlike(), 0);
            due("waiting in the end", screen.waiting(), 0);
            due("stepsToGo in the end", screen.stepsToGo(budget), 0);
        }
    }

    private static void stepsToGoChangesNothing() {
        sentence = "if nothing else was done (stepsToGo leaves everything as it is)";
        FarScreen asked = new FarScreen();
        FarScreen left = new FarScreen();
        for (FarScreen screen : new FarScreen[] {asked, left}) {
            for (int k = 0; k < 9; k++) draw(screen, k, 60 + k);
            screen.step(20);
            makeFilm(screen, 30, 222);
            screen.step(6);
            for (int k = 0; k < 3; k++) screen.move(k, 0, 3, 3, k + 1, k);
            lookAt(screen, 33);
        }
        for (int budget : new int[] {0, 1, 2, 6, 7, 50, 300}) asked.stepsToGo(budget);
        compare(asked, left);
        for (int budget : new int[] {1, 7, 3, 6, 12}) {
            asked.stepsToGo(300);
            due("step with " + budget, asked.step(budget), left.step(budget));
            due("unlike behind it", asked.unlike(), left.unlike());
        }
        due("look", lookAt(asked, 0), lookAt(left, 0));
    }

    private static void compare(FarScreen asked, FarScreen left) {
        for (int tile = 0; tile < 48; tile++) {
            due("near of " + tile, near(asked, tile), near(left, tile));
            due("far of " + tile, far(asked, tile), far(left, tile));
            due("kind of " + tile, kind(asked, tile), kind(left, tile));
            due("since of " + tile, since(asked, tile), since(left, tile));
        }
        due("time", asked.time(), left.time());
        due("unlike", asked.unlike(), left.unlike());
        due("rough", asked.rough(), left.rough());
        due("waiting", asked.waiting(), left.waiting());
        due("known pictures", asked.knownPictures(), left.knownPictures());
        for (int place = 0; place < left.knownPictures(); place++) {
            due("known(" + place + ")", asked.known(place), left.known(place));
        }
        for (int what = 0; what < 4; what++) due("sent(" + what + ")", asked.sent(what), left.sent(what));
        due("used", asked.used(), left.used());
        due("anew", asked.anew(), left.anew());
    }
}
