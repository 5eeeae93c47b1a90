/** The example of README.md, line by line: each answer that stands there is due. */
public final class ReadmeTest {
    private static int wrong = 0;

    private static void due(String call, long got, long want) {
        if (got != want) {
            wrong++;
            System.out.println("README.md: " + call + " answered " + got + ", due is " + want);
        }
    }

    public static void main(String[] args) {
        FarScreen screen = new FarScreen();
        movedBlock(screen);
        film(screen);
        refusal(screen);
        System.out.println(wrong == 0 ? "the example is as due" : wrong + " answers are not as due");
        if (wrong != 0) System.exit(1);
    }

    private static void movedBlock(FarScreen screen) {
        due("fill(0, 0, 3, 1, 65)", screen.fill(0, 0, 3, 1, 65), 3);
        due("move(0, 0, 3, 1, 0, 1)", screen.move(0, 0, 3, 1, 0, 1), 1);
        due("look(1, 1)", screen.look(1, 1), 0);
        due("unlike()", screen.unlike(), 0x707);
        due("since(2, 1)", screen.since(2, 1), 0);
        due("anew()", screen.anew(), 120);
        due("stepsToGo(6)", screen.stepsToGo(6), 3);
        due("stepsToGo(5)", screen.stepsToGo(5), FarScreen.NONE);
        due("step(20)", screen.step(20), 13);
        due("far(2, 1)", screen.far(2, 1), 65);
        due("since(2, 1)", screen.since(2, 1), FarScreen.NONE);
        due("sent(MOVE)", screen.sent(FarScreen.MOVE), 1);
        due("sent(WHOLE)", screen.sent(FarScreen.WHOLE), 1);
        due("sent(KNOWN)", screen.sent(FarScreen.KNOWN), 5);
        due("knownPictures()", screen.knownPictures(), 1);
        due("known(0)", screen.known(0), 65);
    }

    private static void film(FarScreen screen) {
        for (int k = 0; k < 4; k++) {
            screen.fill(7, 5, 1, 1, 100 + k);
            screen.step(k < 3 ? 0 : 2);
        }
        due("kind(7, 5)", screen.kind(7, 5), FarScreen.FILM);
        due("far(7, 5)", screen.far(7, 5), 1006);
        due("near(7, 5)", screen.near(7, 5), 103);
        due("since(7, 5)", screen.since(7, 5), 1);
        due("rough()", screen.rough(), 1);
        due("stepsToGo(6)", screen.stepsToGo(6), 5);
        for (int k = 0; k < 5; k++) screen.step(6);
        due("far(7, 5)", screen.far(7, 5), 103);
        due("unlike()", screen.unlike(), 0);
        due("time()", screen.time(), 10);
        due("used()", screen.used(), 21);
    }

    private static void refusal(FarScreen screen) {
        int refused = 0;
        try {
            screen.step(301);
        } catch (IllegalArgumentException noSuchBudget) {
            refused = 1;
        }
        due("step(301) refused", refused, 1);
        due("time()", screen.time(), 10);
    }
}
