/**
 * The document from its first line to its last, a test for each sentence that tells what a call answers, changes or
 * throws. Where a sentence has boundaries, BoundariesTest goes to each of them; RefusedCallsTest has all refusals.
 */
public final class DocumentTest {
    private static final String INDEX = "IndexOutOfBoundsException";
    private static final String ARGUMENT = "IllegalArgumentException";
    private static final long ALL = (1L << 48) - 1;

    private static int wrong = 0;
    private static String sentence = "";
    private static long seed = 7;

    private interface Call {
        long answer(FarScreen screen);
    }

    public static void main(String[] args) {
        whatItIs();
        terms();
        moves();
        knownPictures();
        stepFirstPart();
        stepSecondPart();
        stepThirdPart();
        constants();
        newObject();
        drawing();
        screens();
        knownAndSent();
        stepsToGo();
        System.out.println(wrong == 0 ? "all sentences are kept" : wrong + " answers are not as due");
        if (wrong != 0) System.exit(1);
    }

    // ---- what the tests share

    private static void due(String what, long got, long want) {
        if (got != want && wrong++ < 50) {
            System.out.println("\"" + sentence + "\": " + what + " answered " + got + ", due is " + want);
        }
    }

    private static void holds(String what, boolean so) {
        due(what, so ? 1 : 0, 1);
    }

    private static void throwing(String what, FarScreen screen, String want, Call call) {
        String got = "nothing";
        try {
            call.answer(screen);
        } catch (RuntimeException thrown) {
            got = thrown.getClass().getSimpleName();
        }
        holds(what + " threw " + got + ", due is " + want, got.equals(want));
    }

    /** The same numbers in each run of this test. */
    private static int below(int bound) {
        seed = seed * 6364136223846793005L + 1442695040888963407L;
        return (int) ((seed >>> 33) % bound);
    }

    private static int near(FarScreen screen, int tile) {
        return screen.near(tile % 8, tile / 8);
    }

    private static int far(FarScreen screen, int tile) {
        return screen.far(tile % 8, tile / 8);
    }

    private static int kind(FarScreen screen, int tile) {
        return screen.kind(tile % 8, tile / 8);
    }

    private static int since(FarScreen screen, int tile) {
        return screen.since(tile % 8, tile / 8);
    }

    private static int draw(FarScreen screen, int tile, int picture) {
        return screen.fill(tile % 8, tile / 8, 1, 1, picture);
    }

    private static int look(FarScreen screen, int tile) {
        return screen.look(tile % 8, tile / 8);
    }

    private static int moveTile(FarScreen screen, int from, int to) {
        return screen.move(from % 8, from / 8, 1, 1, to % 8, to / 8);
    }

    private static void pass(FarScreen screen, int steps) {
        for (int k = 0; k < steps; k++) screen.step(0);
    }

    /** Four changes in four steps, the last of which comes still. */
    private static void makeFilm(FarScreen screen, int tile, int lastPicture) {
        for (int k = 3; k >= 0; k--) {
            draw(screen, tile, (lastPicture + 50 * k) % 256);
            if (k > 0) screen.step(0);
        }
    }

    /** 48 unlike pictures from 100 on, near and far: 49 calls. */
    private static FarScreen unlikePictures() {
        FarScreen screen = new FarScreen();
        for (int tile = 0; tile < 48; tile++) draw(screen, tile, 100 + tile);
        screen.step(300);
        return screen;
    }

    /** All that can be asked, but for stepsToGo: at most 214 calls. */
    private static String shown(FarScreen screen) {
        StringBuilder all = new StringBuilder();
        for (int tile = 0; tile < 48; tile++) {
            all.append(near(screen, tile)).append(',').append(far(screen, tile)).append(',');
            all.append(kind(screen, tile)).append(',').append(since(screen, tile)).append(' ');
        }
        for (int place = 0; place < screen.knownPictures(); place++) all.append(screen.known(place)).append('k');
        for (int what = 0; what < 4; what++) all.append(screen.sent(what)).append('s');
        all.append(screen.time()).append('t').append(screen.unlike()).append('u').append(screen.rough()).append('r');
        all.append(screen.waiting()).append('w').append(screen.used()).append('c').append(screen.anew());
        return all.toString();
    }

    /** Films, rough tiles, letters and pictures, known ones, moves that wait: a different mix for each number. */
    private static void mix(FarScreen screen, int number, int acts) {
        seed = number;
        for (int k = 0; k < acts; k++) {
            int width = 1 + below(4);
            int height = 1 + below(3);
            int x = below(9 - width);
            int y = below(7 - height);
            int toX = below(9 - width);
            int toY = below(7 - height);
            int act = below(8);
            if (act < 4) screen.fill(x, y, width, height, below(number % 2 == 0 ? 256 : 70));
            else if (act < 5 && (x != toX || y != toY)) screen.move(x, y, width, height, toX, toY);
            else if (act < 6) screen.look(x, y);
            else screen.step(below(number % 3 == 0 ? 12 : 4));
        }
    }

    // ---- What it is

    private static void whatItIs() {
        tilesChangeByDrawing();
        sentence = "blocks that are moved are told as such";
        FarScreen moved = unlikePictures();
        moved.move(0, 0, 7, 6, 1, 0);
        due("step that tells 42 tiles", moved.step(300), 2);
        due("unlike behind it", moved.unlike(), 0);
        sentence = "both ends know some pictures";
        FarScreen known = unlikePictures();
        draw(known, 0, 147);
        due("step with a known picture", known.step(300), 1);
        sentence = "tiles that change often are sent roughly first";
        FarScreen often = new FarScreen();
        makeFilm(often, 20, 103);
        due("step with a film", often.step(300), 2);
        due("far of it", far(often, 20), 1006);
        due("since of it", since(often, 20), 0);
        heldByABudget();
        sentence = "the oldest and those that are looked at go first";
        FarScreen order = new FarScreen();
        look(order, 40);
        draw(order, 47, 1);
        order.step(0);
        draw(order, 0, 2);
        draw(order, 33, 3);
        order.step(2);
        due("unlike when one that is looked at is sent", order.unlike(), 1L << 47 | 1);
        order.step(2);
        due("unlike when the oldest is sent", order.unlike(), 1);
        allIsMadeFine();
        sentence = "An object is used for at most 512 calls after it has been made";
        mostThatIsSent();
        oldestThatThereIs();
        bothOld();
        mostSteps();
    }

    /** Nothing but fill and move changes the near screen. */
    private static void tilesChangeByDrawing() {
        sentence = "tiles change by drawing calls";
        FarScreen screen = new FarScreen();
        due("fill", screen.fill(1, 0, 2, 1, 200), 2);
        due("near by fill", near(screen, 2), 200);
        screen.move(1, 0, 2, 1, 4, 3);
        due("near by move", near(screen, 29), 200);
        for (Call call : ALL_OTHERS) {
            call.answer(screen);
            for (int tile = 0; tile < 48; tile++) {
                boolean drawn = tile == 1 || tile == 2 || tile == 28 || tile == 29;
                due("near of the tile " + tile, near(screen, tile), drawn ? 200 : 0);
            }
        }
    }

    private static final Call[] ALL_OTHERS = {
        screen -> screen.look(4, 3), screen -> screen.step(7), screen -> screen.stepsToGo(300),
        screen -> screen.step(300)};

    private static void heldByABudget() {
        sentence = "what is sent in a step is held by a budget";
        for (int number = 0; number < 300; number++) {
            FarScreen screen = new FarScreen();
            int all = 0;
            for (int k = 0; k < 20; k++) {
                mix(screen, 20 * number + k, 6);
                int budget = below(k < 10 ? 10 : 301);
                int ahead = screen.used();
                int[] sent = {screen.sent(0), screen.sent(1), screen.sent(2), screen.sent(3)};
                int used = screen.step(budget);
                holds("step with " + budget + " of " + used, used >= 0 && used <= budget);
                due("used behind it", screen.used() - ahead, used);
                int sure = 2 * (screen.sent(0) - sent[0]) + screen.sent(1) - sent[1] + 2 * (screen.sent(2) - sent[2]);
                int whole = screen.sent(3) - sent[3];
                int rest = used - sure - 2 * whole;
                holds("what " + whole + " whole ones cost", rest >= 0 && rest <= 4 * whole && rest % 4 == 0);
            }
        }
    }

    private static void allIsMadeFine() {
        sentence = "all is made fine when nothing changes any more";
        for (int number = 0; number < 600; number++) {
            FarScreen screen = new FarScreen();
            mix(screen, number, 100);
            int budget = 6 + number % 9;
            int most = screen.stepsToGo(budget);
            holds("steps to go, " + most, most >= 0 && most <= 53);
            for (int k = 0; k < 53; k++) screen.step(budget);
            due("unlike", screen.unlike(), 0);
            due("rough", screen.rough(), 0);
            due("waiting", screen.waiting(), 0);
            for (int tile = 0; tile < 48; tile++) due("far of " + tile, far(screen, tile), near(screen, tile));
            for (int tile = 0; tile < 48; tile++) due("since of " + tile, since(screen, tile), FarScreen.NONE);
            due("step behind that", screen.step(300), 0);
            due("unlike behind that", screen.unlike(), 0);
        }
    }

    /** Films over the whole screen, and one picture over it: what counts most within 512 calls. */
    private static void mostThatIsSent() {
        FarScreen rough = new FarScreen();
        for (int k = 0; k < 250; k++) {
            rough.fill(0, 0, 8, 6, k % 2 == 0 ? 100 : 200);
            due("step " + k + " with films", rough.step(k < 3 ? 0 : 300), k < 3 ? 0 : 96);
        }
        due("sent(ROUGH)", rough.sent(FarScreen.ROUGH), 247 * 48);
        due("used for it", rough.used(), 247 * 96);
        due("time", rough.time(), 250);
        FarScreen known = new FarScreen();
        known.fill(0, 0, 8, 6, 200);
        known.step(300);
        for (int k = 0; k < 250; k++) {
            known.fill(0, 0, 8, 6, k % 2 == 0 ? 0 : 200);
            due("step " + k + " with known ones", known.step(300), k == 0 ? 2 + 47 : 48);
        }
        due("sent(KNOWN)", known.sent(FarScreen.KNOWN), 47 + 47 + 249 * 48);
        due("sent(WHOLE)", known.sent(FarScreen.WHOLE), 2);
        due("used for them", known.used(), 6 + 47 + 2 + 47 + 249 * 48);
        FarScreen told = new FarScreen();
        for (int k = 0; k < 250; k++) {
            moveTile(told, 0, 1);
            told.step(2);
        }
        due("sent(MOVE)", told.sent(FarScreen.MOVE), 250);
    }

    /** The tile 9 is looked at; of the others the older ones go first, however old they are. */
    private static void oldestThatThereIs() {
        for (int by : new int[] {4, 5, 6, 126, 127, 128, 129, 254, 255, 256, 257, 400}) {
            FarScreen screen = new FarScreen();
            pass(screen, 50);
            draw(screen, 46, 1);
            pass(screen, by - 1);
            draw(screen, 45, 2);
            screen.step(0);
            draw(screen, 9, 3);
            draw(screen, 30, 4);
            due("since of the oldest", since(screen, 46), 50);
            due("since of the next", since(screen, 45), 49 + by);
            due("time", screen.time(), 50 + by);
            int[] order = by <= 5 ? new int[] {9, 46, 45, 30} : new int[] {46, 9, 45, 30};
            for (int tile : order) {
                due("step for one", screen.step(2), 2);
                due("far of " + tile + ", the oldest older by " + by, far(screen, tile), near(screen, tile));
            }
        }
    }

    /** One that is a step older goes first, however old both are; of the same age the lowest number. */
    private static void bothOld() {
        for (int by : new int[] {1, 98, 99, 100, 101, 126, 127, 128, 254, 255, 256, 257, 400, 495}) {
            for (int older = 0; older <= 1; older++) {
                FarScreen screen = new FarScreen();
                draw(screen, 40, 1);
                pass(screen, older);
                draw(screen, 33, 2);
                pass(screen, by);
                due("step for one of two", screen.step(2), 2);
                due("unlike, both old, " + by, screen.unlike(), older == 1 ? 1L << 33 : 1L << 40);
            }
        }
    }

    private static void mostSteps() {
        FarScreen screen = new FarScreen();
        pass(screen, 508);
        draw(screen, 17, 9);
        due("since behind 508 steps", since(screen, 17), 508);
        due("stepsToGo then", screen.stepsToGo(2), 1);
        due("time then, the 512th call", screen.time(), 508);
        FarScreen steps = new FarScreen();
        pass(steps, 511);
        due("time behind 511 steps", steps.time(), 511);
    }

    // ---- Terms

    private static void terms() {
        sentence = "If several exceptions apply to a call, the one that its comment lists first is thrown";
        FarScreen screen = new FarScreen();
        throwing("fill of no block and no picture", screen, INDEX, on -> on.fill(8, 0, 1, 1, 256));
        throwing("fill of no picture", screen, ARGUMENT, on -> on.fill(7, 0, 1, 1, 256));
        throwing("move of no block to where it is", screen, INDEX, on -> on.move(7, 0, 2, 1, 7, 0));
        throwing("move of a block to where it is", screen, ARGUMENT, on -> on.move(7, 0, 1, 1, 7, 0));
        throwingChangesNothing();
        sentence = "the tile in the column x and the row y has the number 8 times y, and x";
        screen.fill(3, 4, 1, 1, 9);
        due("unlike", screen.unlike(), 1L << 35);
        sentence = "Each tile of the near screen has a picture, 0 to 255, at first 0";
        due("near at first", screen.near(7, 5), 0);
        due("fill with the least", draw(screen, 35, 0), 0);
        due("fill with the most", draw(screen, 35, 255), 1);
        due("near with the most", near(screen, 35), 255);
        sentence = "Each tile of the far screen has a picture, or is rough with a sixteenth, 0 to 15; at first it has the picture 0";
        due("far at first", screen.far(7, 5), 0);
        screen.step(300);
        due("far with a picture", far(screen, 35), 255);
        makeFilm(screen, 35, 254);
        screen.step(300);
        due("far with the last sixteenth", far(screen, 35), 1015);
        draw(screen, 35, 15);
        screen.step(300);
        due("far with the first sixteenth", far(screen, 35), 1000);
        alikeOrUnlike();
        sentence = "Time is the number of steps so far";
        FarScreen steps = new FarScreen();
        for (int k = 0; k < 255; k++) {
            due("time", steps.time(), k);
            steps.step(k % 3 == 0 ? 0 : k);
        }
        changedInAStep();
        kinds();
    }

    private static void throwingChangesNothing() {
        sentence = "A call that throws an exception changes nothing";
        Call[] calls = {
            on -> on.fill(8, 5, 1, 1, 9), on -> on.fill(0, 0, 8, 6, 256), on -> on.move(0, 0, 8, 5, 0, 2),
            on -> on.move(0, 0, 8, 5, 0, 0), on -> on.look(8, 5), on -> on.step(301), on -> on.near(0, 6),
            on -> on.far(-1, 0), on -> on.kind(8, 0), on -> on.since(0, -1), on -> on.known(8),
            on -> on.sent(4), on -> on.stepsToGo(-1), on -> on.look(-1, 0), on -> on.step(-1)};
        String[] want = {
            INDEX, ARGUMENT, INDEX, ARGUMENT, INDEX, ARGUMENT, INDEX, INDEX, INDEX, INDEX, INDEX, ARGUMENT, ARGUMENT,
            INDEX, ARGUMENT};
        for (int number = 0; number < 30; number++) {
            FarScreen refusing = new FarScreen();
            FarScreen other = new FarScreen();
            mix(refusing, number, 60);
            mix(other, number, 60);
            for (int k = 0; k < calls.length; k++) throwing("call " + k, refusing, want[k], calls[k]);
            due("the place that is looked at", look(refusing, 30), look(other, 30));
            due("step", refusing.step(9), other.step(9));
            holds("all is as in one that refused nothing", shown(refusing).equals(shown(other)));
            due("steps to go", refusing.stepsToGo(7), other.stepsToGo(7));
        }
    }

    private static void alikeOrUnlike() {
        sentence = "A tile is alike if the far one has the picture of the near one, otherwise unlike";
        for (int number = 0; number < 200; number++) {
            FarScreen screen = new FarScreen();
            mix(screen, number, 150);
            long unlike = screen.unlike();
            int rough = 0;
            for (int tile = 0; tile < 48; tile++) {
                boolean alike = near(screen, tile) == far(screen, tile);
                due("unlike of the tile " + tile, unlike >>> tile & 1, alike ? 0 : 1);
                int since = since(screen, tile);
                holds("since of it", alike ? since == FarScreen.NONE : since >= 0 && since <= screen.time());
                if (far(screen, tile) >= 1000) rough++;
            }
            due("rough", screen.rough(), rough);
        }
        sentence = "otherwise unlike, since the time at which it became so last";
        FarScreen screen = new FarScreen();
        pass(screen, 3);
        draw(screen, 8, 5);
        pass(screen, 2);
        draw(screen, 8, 6);
        due("since when it was alike last", since(screen, 8), 3);
        draw(screen, 8, 0);
        due("since of an alike one", since(screen, 8), FarScreen.NONE);
        draw(screen, 8, 6);
        due("since when it became so last", since(screen, 8), 5);
    }

    private static void changedInAStep() {
        sentence = "A tile has changed in a step if a drawing call behind the step before gave it another picture "
            + "than it had just ahead of that call";
        FarScreen screen = new FarScreen();
        for (int k = 1; k <= 3; k++) {
            draw(screen, 0, k);
            screen.step(0);
        }
        draw(screen, 0, 3);
        due("kind with the picture that it had", kind(screen, 0), FarScreen.LETTER);
        screen.step(0);
        screen.step(300);
        due("far by a step is no change", kind(screen, 0), FarScreen.LETTER);
        moveTile(screen, 1, 2);
        moveTile(screen, 0, 1);
        moveTile(screen, 2, 1);
        due("kind when no move came to it", kind(screen, 0), FarScreen.LETTER);
        moveTile(screen, 1, 0);
        due("kind when a move came to it", kind(screen, 0), FarScreen.FILM);
        due("kind when moves came to it in one step", kind(screen, 1), FarScreen.LETTER);
        draw(screen, 0, 4);
        due("kind with another one", kind(screen, 0), FarScreen.FILM);
        draw(screen, 0, 3);
        due("kind when it is drawn back", kind(screen, 0), FarScreen.FILM);
    }

    private static void kinds() {
        sentence = "A tile is a FILM if it changed in at least four of the latest eight steps, the one that comes next "
            + "counted as the latest, otherwise LETTER if its picture is below 64, otherwise PICTURE";
        for (int way = 0; way < 1 << 12; way += 3) {
            FarScreen screen = new FarScreen();
            int picture = 60;
            for (int k = 0; k < 12; k++) {
                if ((way >>> k & 1) == 1) draw(screen, 11, ++picture);
                int low = Math.max(0, k - 7);
                int changes = Integer.bitCount((way & (1 << k + 1) - 1) >>> low);
                int shown = near(screen, 11);
                int still = shown < 64 ? FarScreen.LETTER : FarScreen.PICTURE;
                due("kind by the way " + way + " at " + k, kind(screen, 11), changes >= 4 ? FarScreen.FILM : still);
                screen.step(0);
            }
        }
    }

    // ---- Moves

    private static void moves() {
        sentence = "the tiles of the near screen at which it comes to have the pictures that its tiles had ahead of that";
        for (int number = 0; number < 200; number++) {
            FarScreen screen = new FarScreen();
            mix(screen, number, 50);
            int[] ahead = new int[48];
            for (int tile = 0; tile < 48; tile++) ahead[tile] = near(screen, tile);
            int x = below(5);
            int y = below(3);
            int toX = (x + 1 + below(4)) % 5;
            int toY = below(3);
            screen.move(x, y, 4, 4, toX, toY);
            for (int tile = 0; tile < 48; tile++) {
                boolean inside = tile % 8 >= toX && tile % 8 < toX + 4 && tile / 8 >= toY && tile / 8 < toY + 4;
                int from = inside ? tile + 8 * (y - toY) + x - toX : tile;
                due("near of the tile " + tile, near(screen, tile), ahead[from]);
            }
        }
        sentence = "If fewer than 4 moves wait, the move waits to be told; otherwise it is not told as such";
        FarScreen screen = unlikePictures();
        for (int k = 0; k < 4; k++) due("move", moveTile(screen, 40 + k, 47), k + 1);
        due("the fifth one", moveTile(screen, 0, 16), 4);
        due("step", screen.step(300), 8 + 6);
        due("sent(MOVE)", screen.sent(FarScreen.MOVE), 4);
        due("unlike", screen.unlike(), 0);
    }

    // ---- Known pictures

    private static void knownPictures() {
        sentence = "Both ends know the same row of at most 8 unlike pictures, the latest first, none at first";
        due("at first", new FarScreen().knownPictures(), 0);
        for (int number = 0; number < 200; number++) {
            FarScreen screen = new FarScreen();
            mix(screen, number, 200);
            int count = screen.knownPictures();
            holds("so many, " + count, count >= 0 && count <= 8);
            for (int place = 0; place < count; place++) {
                holds("a picture", screen.known(place) >= 0 && screen.known(place) <= 255);
                for (int other = 0; other < place; other++) {
                    holds("unlike ones", screen.known(other) != screen.known(place));
                }
            }
        }
        sentence = "A picture that is met comes first in the row; if there were 9 then, the last one is forgotten";
        FarScreen screen = unlikePictures();
        for (int place = 0; place < 8; place++) due("known(" + place + ")", screen.known(place), 147 - place);
        draw(screen, 0, 142);
        draw(screen, 1, 7);
        screen.step(300);
        int[] row = {7, 142, 147, 146, 145, 144, 143, 141};
        for (int place = 0; place < 8; place++) due("known(" + place + ")", screen.known(place), row[place]);
        due("knownPictures", screen.knownPictures(), 8);
    }

    // ---- A step with a budget

    private static void stepFirstPart() {
        sentence = "Moves that wait are told in their order, each for 2, as long as the budget reaches";
        FarScreen order = unlikePictures();
        moveTile(order, 0, 8);
        moveTile(order, 8, 16);
        moveTile(order, 16, 24);
        due("step with 5", order.step(5), 4);
        due("waiting", order.waiting(), 1);
        due("far of the first", far(order, 8), 100);
        due("far of the second, that was told behind the first", far(order, 16), 100);
        due("far of the third, that was not told", far(order, 24), 124);
        due("step for the third", order.step(2), 2);
        due("far of the third", far(order, 24), 100);
        due("unlike when all are told", order.unlike(), 0);
        FarScreen one = unlikePictures();
        draw(one, 0, 147);
        moveTile(one, 1, 2);
        moveTile(one, 1, 2);
        due("step with 3 for two moves, a picture is known", one.step(3), 2);
        due("unlike behind it", one.unlike(), 1);
        sentence = "told ones do to the far screen what they did to the near one, all tiles at once";
        for (int k = 0; k < 2; k++) {
            FarScreen once = unlikePictures();
            once.move(k, 0, 7, 6, 1 - k, 0);
            once.step(2);
            for (int tile = 0; tile < 48; tile++) due("far of the tile " + tile, far(once, tile), near(once, tile));
        }
        sentence = "tiles that are rough are moved as they are";
        FarScreen rough = new FarScreen();
        makeFilm(rough, 0, 100);
        rough.step(2);
        moveTile(rough, 0, 7);
        due("step that tells it", rough.step(2), 2);
        due("far of it", far(rough, 7), 1006);
        due("far of the one from which it came", far(rough, 0), 1006);
        due("kind of it", kind(rough, 7), FarScreen.PICTURE);
    }

    private static void stepSecondPart() {
        sentence = "If no move waits then, the unlike tiles are gone through";
        FarScreen waits = new FarScreen();
        moveTile(waits, 0, 1);
        moveTile(waits, 0, 1);
        draw(waits, 9, 9);
        due("step when one waits then", waits.step(3), 2);
        due("step when none waits then", waits.step(4), 4);
        sentence = "in the order of their worth, the greatest first, of several the lowest number";
        orderOfWorths();
        sentence = "one that it does not reach for is passed over";
        FarScreen over = new FarScreen();
        int[] pictures = {200, 201, 5, 200, 6};
        for (int k = 0; k < 5; k++) draw(over, 20 + k, pictures[k]);
        due("step with 9", over.step(9), 9);
        due("unlike behind it", over.unlike(), 1L << 21 | 1L << 24);
        ways();
        sentence = "Worths and orders are those behind the first part";
        FarScreen behind = unlikePictures();
        pass(behind, 10);
        look(behind, 47);
        moveTile(behind, 0, 1);
        draw(behind, 1, 101);
        pass(behind, 10);
        draw(behind, 2, 50);
        draw(behind, 3, 101);
        due("step that makes the tile 1 unlike and sends it ahead of 2 and 3", behind.step(2 + 6), 8);
        due("unlike behind it", behind.unlike(), 1L << 2 | 1L << 3);
        sentence = "kinds and known pictures are those of when it is the turn of a tile";
        FarScreen turn = new FarScreen();
        draw(turn, 3, 99);
        draw(turn, 30, 99);
        makeFilm(turn, 40, 99);
        due("step with one picture for three", turn.step(300), 6 + 1 + 1);
        due("sent(ROUGH)", turn.sent(FarScreen.ROUGH), 0);
    }

    /** Tiles of many ages, sent one by one: a slow search tells which is the next. */
    private static void orderOfWorths() {
        for (int number = 0; number < 100; number++) {
            seed = number;
            FarScreen screen = new FarScreen();
            int[] since = new int[48];
            for (int k = 0; k < 48; k++) {
                int tile = (7 * k + number) % 48;
                since[tile] = screen.time();
                draw(screen, tile, 1 + k);
                pass(screen, below(4) == 0 ? below(6) : 0);
            }
            int lookedAt = below(48);
            look(screen, lookedAt);
            long left = ALL;
            for (int k = 0; k < 48; k++) {
                left &= ~(1L << greatest(left, since, lookedAt));
                screen.step(2);
                due("unlike behind " + (k + 1) + " of the mix " + number, screen.unlike(), left);
            }
        }
    }

    private static int greatest(long left, int[] since, int lookedAt) {
        int best = -1;
        int most = Integer.MIN_VALUE;
        for (int tile = 0; tile < 48; tile++) {
            int across = tile % 8 - lookedAt % 8;
            int down = tile / 8 - lookedAt / 8;
            int worth = (across * across <= 1 && down * down <= 1 ? 5 : 0) - since[tile];
            if ((left >>> tile & 1) == 1 && worth > most) {
                best = tile;
                most = worth;
            }
        }
        return best;
    }

    private static void ways() {
        sentence = "KNOWN, for 1, if its picture is known: the far tile has the picture, which is met";
        FarScreen known = unlikePictures();
        draw(known, 0, 145);
        due("step", known.step(1), 1);
        due("far", far(known, 0), 145);
        due("known(0)", known.known(0), 145);
        due("sent(KNOWN)", known.sent(FarScreen.KNOWN), 1);
        sentence = "otherwise, of a FILM, ROUGH, for 2: the far tile is rough with its picture divided by 16, rounded down";
        FarScreen film = unlikePictures();
        makeFilm(film, 0, 63);
        due("step with 1", film.step(1), 0);
        due("step with 2", film.step(2), 2);
        due("far", far(film, 0), 1003);
        due("known(0)", film.known(0), 147);
        due("sent(ROUGH)", film.sent(FarScreen.ROUGH), 1);
        sentence = "nothing is sent if it is so already";
        due("step", film.step(300), 0);
        due("sent(ROUGH)", film.sent(FarScreen.ROUGH), 1);
        due("sent(WHOLE)", film.sent(FarScreen.WHOLE), 48);
        sentence = "otherwise WHOLE, for 2 for a LETTER, and 6 for a PICTURE: the far tile has the picture, which is met";
        FarScreen whole = unlikePictures();
        draw(whole, 0, 63);
        due("step with 1", whole.step(1), 0);
        due("step with 2", whole.step(2), 2);
        draw(whole, 1, 64);
        due("step with 5", whole.step(5), 0);
        due("step with 6", whole.step(6), 6);
        due("far of the letter", far(whole, 0), 63);
        due("far of the picture", far(whole, 1), 64);
        due("known(0)", whole.known(0), 64);
        due("known(1)", whole.known(1), 63);
        due("sent(WHOLE)", whole.sent(FarScreen.WHOLE), 50);
    }

    private static void stepThirdPart() {
        sentence = "The time grows by 1; the step is over, and which tiles changed in it is settled";
        FarScreen screen = new FarScreen();
        for (int k = 0; k < 4; k++) {
            draw(screen, 6, 1 + k);
            due("time", screen.time(), k);
            screen.step(0);
        }
        due("time", screen.time(), 4);
        pass(screen, 3);
        due("kind of four in eight", kind(screen, 6), FarScreen.FILM);
        pass(screen, 1);
        due("kind of three in eight", kind(screen, 6), FarScreen.LETTER);
        sentence = "A tile that becomes unlike by a drawing call, or by a move that is told, is unlike since the time of then";
        FarScreen told = unlikePictures();
        moveTile(told, 0, 1);
        due("since by the drawing call", since(told, 1), 1);
        draw(told, 1, 101);
        pass(told, 5);
        due("since ahead of the telling", since(told, 1), FarScreen.NONE);
        told.step(2);
        due("since by the telling", since(told, 1), 6);
        due("time", told.time(), 7);
        FarScreen again = unlikePictures();
        moveTile(again, 0, 1);
        moveTile(again, 2, 1);
        draw(again, 1, 100);
        pass(again, 3);
        due("since by the drawing calls", since(again, 1), 1);
        due("step that makes it alike, and unlike again", again.step(4), 4);
        due("since by the second telling", since(again, 1), 4);
    }

    private static void constants() {
        sentence = "NONE = -1 .. LETTER = 0, PICTURE = 1, FILM = 2 .. MOVE = 0, KNOWN = 1, ROUGH = 2, WHOLE = 3";
        due("NONE", FarScreen.NONE, -1);
        int[] kinds = {FarScreen.LETTER, FarScreen.PICTURE, FarScreen.FILM};
        int[] ways = {FarScreen.MOVE, FarScreen.KNOWN, FarScreen.ROUGH, FarScreen.WHOLE};
        for (int k = 0; k < kinds.length; k++) due("a kind", kinds[k], k);
        for (int k = 0; k < ways.length; k++) due("a way", ways[k], k);
    }

    // ---- Promise 1

    private static void newObject() {
        sentence = "Makes two screens that are alike; the place that is looked at is the tile 0";
        FarScreen screen = new FarScreen();
        String first = shown(screen);
        due("unlike", screen.unlike(), 0);
        due("stepsToGo", screen.stepsToGo(0), 0);
        due("look", look(screen, 47), 0);
        mix(screen, 4, 100);
        holds("an object that is made behind it is as new", shown(new FarScreen()).equals(first));
        // Two by turns, each as one that is alone: what is kept for all objects would show.
        for (int number = 0; number < 60; number++) {
            FarScreen one = new FarScreen();
            FarScreen other = new FarScreen();
            FarScreen alone = new FarScreen();
            for (int k = 0; k < 20; k++) {
                mix(one, 100 * number + k, 10);
                mix(other, 100 * number + k + 50, 10);
                other.stepsToGo(k);
            }
            for (int k = 0; k < 20; k++) mix(alone, 100 * number + k, 10);
            holds("one of two by turns is as one alone", shown(one).equals(shown(alone)));
            due("steps to go of one of two", one.stepsToGo(6), alone.stepsToGo(6));
        }
    }

    // ---- Promises 2 to 6

    private static void drawing() {
        sentence = "Gives a block of tiles a picture. Returns how many tiles are unlike then";
        FarScreen screen = new FarScreen();
        due("fill", screen.fill(2, 1, 3, 2, 40), 6);
        due("fill beside it", screen.fill(4, 1, 2, 1, 41), 7);
        due("unlike", screen.unlike(), 0x3CL << 8 | 0x1CL << 16);
        due("fill of all", new FarScreen().fill(0, 0, 8, 6, 1), 48);
        due("fill that makes four alike", screen.fill(2, 1, 2, 2, 0), 3);
        due("near of the corner", screen.near(4, 2), 40);
        sentence = "Moves a block of tiles. Returns how many moves wait then";
        due("move", screen.move(4, 1, 2, 2, 0, 4), 1);
        due("near of it", screen.near(0, 4), 41);
        due("near of its other end", screen.near(1, 5), 0);
        due("move of another", screen.move(0, 0, 8, 1, 0, 3), 2);
        sentence = "Looks at a tile. Returns the number of the tile that was looked at before";
        due("look", screen.look(5, 3), 0);
        due("look again", screen.look(7, 5), 29);
        due("look for the third time", screen.look(0, 0), 47);
        sentence = "Lets a step pass. Returns how much of the budget was used";
        due("step", screen.step(4), 4);
        due("step with the rest", screen.step(300), 2 + 1 + 2 + 1 + 1 + 1);
        due("unlike", screen.unlike(), 0);
        sentence = "Returns the time";
        due("time", screen.time(), 2);
        drawingThrows(screen);
    }

    private static void drawingThrows(FarScreen screen) {
        sentence = "Throws IndexOutOfBoundsException if x, y, width or height is out of its range";
        int[][] blocks = {{-1, 0, 1, 1}, {8, 0, 1, 1}, {0, -1, 1, 1}, {0, 6, 1, 1}, {0, 0, 0, 1}, {1, 0, 8, 1},
            {0, 0, 1, 0}, {0, 1, 1, 6}};
        for (int[] b : blocks) {
            throwing("fill", screen, INDEX, on -> on.fill(b[0], b[1], b[2], b[3], 5));
            throwing("move", screen, INDEX, on -> on.move(b[0], b[1], b[2], b[3], 3, 3));
        }
        sentence = "Throws IllegalArgumentException if picture is out of its range";
        throwing("fill with -1", screen, ARGUMENT, on -> on.fill(0, 0, 1, 1, -1));
        throwing("fill with 256", screen, ARGUMENT, on -> on.fill(0, 0, 1, 1, 256));
        sentence = "Throws IndexOutOfBoundsException if an argument is out of its range";
        int[][] aims = {{-1, 0}, {7, 0}, {0, -1}, {0, 5}};
        for (int[] to : aims) throwing("move", screen, INDEX, on -> on.move(3, 3, 2, 2, to[0], to[1]));
        sentence = "Throws IllegalArgumentException if it would come to where it is";
        throwing("move", screen, ARGUMENT, on -> on.move(3, 3, 2, 2, 3, 3));
        sentence = "Throws IllegalArgumentException if budget is out of its range";
        throwing("step with -1", screen, ARGUMENT, on -> on.step(-1));
        throwing("step with 301", screen, ARGUMENT, on -> on.step(301));
        due("the time is as it was", screen.time(), 2);
    }

    // ---- Promises 7 to 13

    private static void screens() {
        FarScreen screen = unlikePictures();
        for (int tile = 0; tile < 48; tile += 5) {
            draw(screen, tile, tile);
            sentence = "Returns the picture of a tile of the near screen";
            due("near", near(screen, tile), tile);
            sentence = "Returns what a tile of the far screen has. Returns its picture; 1000 and its sixteenth, if it is rough";
            due("far", far(screen, tile), 100 + tile);
            sentence = "Returns the kind of a tile, as it would be in the step that comes if nothing was drawn";
            due("kind", kind(screen, tile), FarScreen.LETTER);
            due("kind of another", kind(screen, tile + 1), FarScreen.PICTURE);
            sentence = "Returns since when a tile is unlike. Returns the time; NONE if it is alike";
            due("since", since(screen, tile), 1);
            due("since of another", since(screen, tile + 1), FarScreen.NONE);
        }
        sentence = "Returns the unlike tiles, as a set: bit k for the tile k";
        due("unlike", screen.unlike(), 0x210842108421L);
        sentence = "Returns how many tiles of the far screen are rough";
        makeFilm(screen, 0, 33);
        makeFilm(screen, 47, 34);
        screen.step(4);
        due("rough", screen.rough(), 1);
        screen.step(300);
        due("rough of two", screen.rough(), 2);
        due("far of one", far(screen, 47), 1002);
        sentence = "Returns how many moves wait";
        due("waiting", screen.waiting(), 0);
        moveTile(screen, 0, 1);
        due("waiting", screen.waiting(), 1);
        sentence = "Throws IndexOutOfBoundsException if there is no such tile";
        int[][] places = {{-1, 0}, {8, 0}, {0, -1}, {0, 6}};
        for (int[] p : places) {
            throwing("look", screen, INDEX, on -> on.look(p[0], p[1]));
            throwing("near", screen, INDEX, on -> on.near(p[0], p[1]));
            throwing("far", screen, INDEX, on -> on.far(p[0], p[1]));
            throwing("kind", screen, INDEX, on -> on.kind(p[0], p[1]));
            throwing("since", screen, INDEX, on -> on.since(p[0], p[1]));
        }
        kindIsThatOfTheStep();
    }

    /** What kind answers just ahead of a step is what the step sends a picture by that is not known. */
    private static void kindIsThatOfTheStep() {
        sentence = "Returns the kind of a tile, as it would be in the step that comes if nothing was drawn";
        for (int number = 0; number < 300; number++) {
            FarScreen screen = new FarScreen();
            mix(screen, number, 80);
            screen.step(8);
            makeFilm(screen, 40, 77);
            draw(screen, 41, 78);
            long ahead = screen.unlike();
            int[] kinds = new int[48];
            for (int tile = 0; tile < 48; tile++) kinds[tile] = kind(screen, tile);
            screen.step(300);
            for (int tile = 0; tile < 48; tile++) {
                if ((ahead >>> tile & 1) == 0 || far(screen, tile) < 1000) continue;
                due("kind of the tile " + tile + ", which was sent roughly", kinds[tile], FarScreen.FILM);
            }
            for (int tile = 0; tile < 48; tile++) {
                if (kinds[tile] != FarScreen.FILM) due("far of one that is no film", far(screen, tile), near(screen, tile));
            }
        }
    }

    // ---- Promises 14 to 18

    private static void knownAndSent() {
        sentence = "Returns a known picture. Throws IndexOutOfBoundsException if there are not so many";
        FarScreen screen = new FarScreen();
        throwing("known(0) of none", screen, INDEX, on -> on.known(0));
        draw(screen, 0, 12);
        draw(screen, 1, 13);
        due("step", screen.step(300), 4);
        due("known(0)", screen.known(0), 13);
        due("known(1)", screen.known(1), 12);
        throwing("known(2) of two", screen, INDEX, on -> on.known(2));
        throwing("known(-1)", screen, INDEX, on -> on.known(-1));
        sentence = "Returns how many pictures are known";
        due("knownPictures", screen.knownPictures(), 2);
        sentence = "Returns how much was sent so far. Returns how many times";
        moveTile(screen, 0, 2);
        makeFilm(screen, 3, 90);
        draw(screen, 4, 12);
        screen.step(300);
        int[] sent = {1, 1, 1, 2};
        for (int what = 0; what < 4; what++) due("sent(" + what + ")", screen.sent(what), sent[what]);
        sentence = "Throws IllegalArgumentException if what is none of these";
        throwing("sent(-1)", screen, ARGUMENT, on -> on.sent(-1));
        throwing("sent(4)", screen, ARGUMENT, on -> on.sent(4));
        sentence = "Returns all that was used of budgets so far";
        due("used", screen.used(), 4 + 2 + 1 + 2);
        sentence = "Returns what it would cost to send the whole screen anew, each tile WHOLE, as a LETTER if its picture is below 64";
        due("anew", screen.anew(), 47 * 2 + 6);
        for (int number = 0; number < 100; number++) {
            FarScreen mixed = new FarScreen();
            mix(mixed, number, 100);
            int cost = 0;
            for (int tile = 0; tile < 48; tile++) cost += near(mixed, tile) < 64 ? 2 : 6;
            due("anew", mixed.anew(), cost);
        }
    }

    // ---- Promise 19

    private static void stepsToGo() {
        sentence = "Returns how many steps with a budget there would have to be until all tiles are alike, and no move waits, "
            + "if nothing else was done";
        int[] budgets = {0, 1, 2, 3, 5, 6, 7, 12, 40, 300};
        for (int number = 0; number < 600; number++) {
            FarScreen screen = new FarScreen();
            mix(screen, number, 120);
            int time = screen.time();
            for (int budget : budgets) screen.stepsToGo(budget);
            due("time behind asking", screen.time(), time);
            int budget = budgets[number % budgets.length];
            int answer = screen.stepsToGo(budget);
            int steps = 0;
            while (steps <= 100 && (screen.unlike() != 0 || screen.waiting() > 0)) {
                screen.step(budget);
                steps++;
            }
            due("stepsToGo(" + budget + ") of the mix " + number, answer, steps <= 100 ? steps : FarScreen.NONE);
        }
        sentence = "Returns the steps; 0 if it is so; NONE if there would have to be more than 100";
        FarScreen screen = new FarScreen();
        due("if it is so", screen.stepsToGo(0), 0);
        draw(screen, 7, 64);
        due("with 6", screen.stepsToGo(6), 1);
        due("with 5", screen.stepsToGo(5), FarScreen.NONE);
        FarScreen films = new FarScreen();
        for (int k = 0; k < 8; k++) {
            films.fill(0, 0, 8, 6, 200 + k);
            if (k < 7) films.step(0);
        }
        for (int tile = 0; tile < 48; tile++) draw(films, tile, 1 + tile);
        due("with 300, all of them films", films.stepsToGo(300), 6);
        for (int k = 0; k < 4; k++) moveTile(films, 0, 1);
        draw(films, 1, 50);
        due("with 2, all of them films and moves", films.stepsToGo(2), 53);
        due("with 1, all of them films", films.stepsToGo(1), FarScreen.NONE);
        films.step(8);
        due("with 2, all of them films but for moves", films.stepsToGo(2), 52);
        sentence = "if nothing else was done";
        for (int number = 0; number < 60; number++) {
            FarScreen asked = new FarScreen();
            FarScreen other = new FarScreen();
            mix(asked, number, 100);
            mix(other, number, 100);
            for (int budget = 0; budget <= 300; budget += 13) asked.stepsToGo(budget);
            due("the place that is looked at behind asking", look(asked, 8), look(other, 8));
            due("step behind asking", asked.step(7), other.step(7));
            holds("all is as in one that was not asked", shown(asked).equals(shown(other)));
        }
        sentence = "Throws IllegalArgumentException if budget is out of its range";
        throwing("stepsToGo(-1)", screen, ARGUMENT, on -> on.stepsToGo(-1));
        throwing("stepsToGo(301)", screen, ARGUMENT, on -> on.stepsToGo(301));
    }
}
