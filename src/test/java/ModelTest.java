import java.util.ArrayList;
import java.util.Arrays;
import java.util.HashSet;
import java.util.List;
import java.util.Set;

/** Long mixed runs against a second, slow program of the document, which shares nothing with the class. */
public final class ModelTest {
    /** The document once more, told by copies and plain searches. */
    private static final class Model {
        int[] near = new int[48];
        int[] far = new int[48];
        Integer[] since = new Integer[48];
        List<Set<Integer>> changed = new ArrayList<>();
        List<int[]> moves = new ArrayList<>();
        List<Integer> known = new ArrayList<>();
        int[] sent = new int[4];
        int used = 0;
        int look = 0;

        Model() {
            changed.add(new HashSet<>());
        }

        Model copy() {
            Model copy = new Model();
            copy.near = near.clone();
            copy.far = far.clone();
            copy.since = since.clone();
            copy.changed = new ArrayList<>();
            for (Set<Integer> step : changed) copy.changed.add(new HashSet<>(step));
            copy.moves = new ArrayList<>(moves);
            copy.known = new ArrayList<>(known);
            copy.sent = sent.clone();
            copy.used = used;
            copy.look = look;
            return copy;
        }

        int time() {
            return changed.size() - 1;
        }

        void settle() {
            for (int k = 0; k < 48; k++) {
                if (near[k] == far[k]) since[k] = null;
                else if (since[k] == null) since[k] = time();
            }
        }

        void drawn(int[] next) {
            for (int k = 0; k < 48; k++) if (next[k] != near[k]) changed.get(time()).add(k);
            near = next;
            settle();
        }

        static int[] moved(int[] screen, int[] m) {
            int[] next = screen.clone();
            for (int k = 0; k < 48; k++) {
                int column = k % 8 - m[4];
                int row = k / 8 - m[5];
                if (column >= 0 && column < m[2] && row >= 0 && row < m[3]) {
                    next[k] = screen[8 * (m[1] + row) + m[0] + column];
                }
            }
            return next;
        }

        int fill(int x, int y, int width, int height, int picture) {
            int[] next = near.clone();
            for (int k = 0; k < 48; k++) {
                if (k % 8 >= x && k % 8 < x + width && k / 8 >= y && k / 8 < y + height) next[k] = picture;
            }
            drawn(next);
            return Long.bitCount(unlike());
        }

        int move(int... m) {
            drawn(moved(near, m));
            if (moves.size() < 4) moves.add(m);
            return moves.size();
        }

        int kind(int tile) {
            int count = 0;
            for (int back = 0; back < 8 && back <= time(); back++) {
                if (changed.get(time() - back).contains(tile)) count++;
            }
            return count >= 4 ? 2 : near[tile] < 64 ? 0 : 1;
        }

        long unlike() {
            long set = 0;
            for (int k = 0; k < 48; k++) if (near[k] != far[k]) set += 1L << k;
            return set;
        }

        int worth(int tile) {
            boolean close = Math.max(Math.abs(tile % 8 - look % 8), Math.abs(tile / 8 - look / 8)) < 2;
            return time() - since[tile] + (close ? 5 : 0);
        }

        void meet(int picture) {
            known.remove((Integer) picture);
            known.add(0, picture);
            if (known.size() == 9) known.remove(8);
        }

        int step(int budget) {
            int left = budget;
            while (!moves.isEmpty() && left >= 2) {
                far = moved(far, moves.remove(0));
                settle();
                left -= 2;
                sent[0]++;
            }
            if (moves.isEmpty()) {
                for (int tile : inOrder()) left -= send(tile, left);
            }
            settle();
            changed.add(new HashSet<>());
            used += budget - left;
            return budget - left;
        }

        List<Integer> inOrder() {
            List<Integer> rest = new ArrayList<>();
            for (int k = 0; k < 48; k++) if (near[k] != far[k]) rest.add(k);
            List<Integer> order = new ArrayList<>();
            while (!rest.isEmpty()) {
                Integer best = rest.get(0);
                for (Integer tile : rest) if (worth(tile) > worth(best)) best = tile;
                rest.remove(best);
                order.add(best);
            }
            return order;
        }

        int send(int tile, int left) {
            int what = known.contains(near[tile]) ? 1 : kind(tile) == 2 ? 2 : 3;
            int cost = what == 1 ? 1 : what == 2 || near[tile] < 64 ? 2 : 6;
            if (cost > left) return 0;
            int next = what == 2 ? 1000 + near[tile] / 16 : near[tile];
            if (far[tile] == next) return 0;
            far[tile] = next;
            if (what != 2) meet(near[tile]);
            sent[what]++;
            return cost;
        }

        int anew() {
            return Arrays.stream(near).map(picture -> picture < 64 ? 2 : 6).sum();
        }

        int stepsToGo(int budget) {
            Model copy = copy();
            for (int steps = 0; steps <= 100; steps++) {
                if (copy.unlike() == 0 && copy.moves.isEmpty()) return steps;
                copy.step(budget);
            }
            return -1;
        }
    }

    private static long seed = 1;
    private static int wrong = 0;
    private static final List<String> done = new ArrayList<>();

    /** The same numbers in each run of this test. */
    private static int below(int bound) {
        seed = seed * 6364136223846793005L + 1442695040888963407L;
        return (int) ((seed >>> 33) % bound);
    }

    private static void due(String call, long got, long want) {
        if (got != want && wrong++ < 10) {
            System.out.println(call + " answered " + got + ", due is " + want + ", behind " + done);
        }
    }

    public static void main(String[] args) {
        int[] seen = new int[4];
        for (int run = 0; run < 3000 && wrong == 0; run++) {
            Model model = oneRun(run);
            for (int what = 0; what < 4; what++) seen[what] += model.sent[what];
        }
        for (int what = 0; what < 4; what++) {
            if (wrong == 0 && seen[what] < 1000) due("what the runs send of " + what, seen[what], 1000);
        }
        System.out.println(wrong == 0 ? "all runs are as due" : wrong + " answers are not as due");
        if (wrong != 0) System.exit(1);
    }

    /** At most 512 calls: a question behind each act, in some runs all questions behind all acts instead. */
    private static Model oneRun(int run) {
        done.clear();
        FarScreen screen = new FarScreen();
        Model model = new Model();
        int pictures = run % 3 == 0 ? 256 : run % 3 == 1 ? 90 : 12;
        int most = run % 4 == 0 ? 301 : run % 4 == 1 ? 40 : run % 4 == 2 ? 9 : 4;
        boolean atTheEnd = run % 5 == 0;
        int acts = atTheEnd ? 280 : 250;
        for (int k = 0; k < acts; k++) {
            act(screen, model, pictures, most);
            if (!atTheEnd) ask(screen, model, below(13), below(48), below(most));
        }
        for (int k = 0; atTheEnd && k < 192; k++) ask(screen, model, k / 48, k % 48, 0);
        for (int what = 4; atTheEnd && what < 13; what++) ask(screen, model, what, 0, most - 1);
        return model;
    }

    private static void act(FarScreen screen, Model model, int pictures, int most) {
        int what = below(10);
        int width = below(3) == 0 ? 1 + below(8) : 1 + below(2);
        int height = below(3) == 0 ? 1 + below(6) : 1 + below(2);
        int x = below(9 - width);
        int y = below(7 - height);
        String block = "(" + x + ", " + y + ", " + width + ", " + height + ", ";
        if (what < 4) {
            int picture = below(pictures);
            done.add("fill" + block + picture + ")");
            due("the last", screen.fill(x, y, width, height, picture), model.fill(x, y, width, height, picture));
        } else if (what < 6) {
            int toX = below(9 - width);
            int toY = below(7 - height);
            if (x == toX && y == toY) return;
            done.add("move" + block + toX + ", " + toY + ")");
            due("the last", screen.move(x, y, width, height, toX, toY), model.move(x, y, width, height, toX, toY));
        } else if (what < 7) {
            done.add("look(" + x + ", " + y + ")");
            due("the last", screen.look(x, y), model.look);
            model.look = 8 * y + x;
        } else {
            int budget = below(most);
            done.add("step(" + budget + ")");
            due("the last", screen.step(budget), model.step(budget));
        }
    }

    private static void ask(FarScreen screen, Model model, int what, int tile, int budget) {
        int x = tile % 8;
        int y = tile / 8;
        switch (what) {
            case 0 -> due("near of " + tile, screen.near(x, y), model.near[tile]);
            case 1 -> due("far of " + tile, screen.far(x, y), model.far[tile]);
            case 2 -> due("kind of " + tile, screen.kind(x, y), model.kind(tile));
            case 3 -> due("since of " + tile, screen.since(x, y), model.since[tile] == null ? -1 : model.since[tile]);
            case 4 -> due("time", screen.time(), model.time());
            case 5 -> due("unlike", screen.unlike(), model.unlike());
            case 6 -> due("rough", screen.rough(), Arrays.stream(model.far).filter(f -> f >= 1000).count());
            case 7 -> due("waiting", screen.waiting(), model.moves.size());
            case 8 -> askKnown(screen, model, tile % 8);
            case 9 -> due("sent(" + tile % 4 + ")", screen.sent(tile % 4), model.sent[tile % 4]);
            case 10 -> due("used", screen.used(), model.used);
            case 11 -> due("anew", screen.anew(), model.anew());
            default -> due("stepsToGo(" + budget + ")", screen.stepsToGo(budget), model.stepsToGo(budget));
        }
    }

    private static void askKnown(FarScreen screen, Model model, int place) {
        if (place < model.known.size()) due("known(" + place + ")", screen.known(place), model.known.get(place));
        else due("knownPictures", screen.knownPictures(), model.known.size());
    }
}
