import java.util.NoSuchElementException;
import java.util.Random;

/** Random runs of calls, always the same ones, held call by call against the slow Model. */
public final class RandomRunsTest {
    private static int wrong = 0;
    private static long calls = 0;

    private final Random random;
    private final ShelfShift x = new ShelfShift();
    private final Model m;
    private final StringBuilder told = new StringBuilder();
    private final int mostBooks;
    private final int mostShelves;
    private final int mostWidth;
    private boolean failed = false;

    private RandomRunsTest(long seed, boolean large) {
        random = new Random(seed);
        m = new Model(large);
        mostShelves = large ? 12 : pick(1, 12);
        mostBooks = large ? 61 : pick(3, mostShelves > 6 ? 16 : 24);
        mostWidth = pick(4, 40);
    }

    private int pick(int least, int most) {
        return least + random.nextInt(most - least + 1);
    }

    /** A number of something, now and then one that is off. */
    private int near(int count) {
        return pick(0, 19) == 0 ? pick(-2, count + 1) : pick(0, Math.max(0, count - 1));
    }

    private void same(String call, long got, long want) {
        calls++;
        if (got != want && !failed) {
            failed = true;
            wrong++;
            System.out.println(told + "\n" + call + " answered " + got + ", due is " + want);
        }
    }

    private void change(String call, long got, long want) {
        told.append(call).append(" = ").append(want).append("; ");
        same(call, got, want);
    }

    private static int b(boolean yes) {
        return yes ? 1 : 0;
    }

    private int askOn(boolean model, int s, int what) {
        try {
            return model ? m.on(s, what) : x.on(s, what);
        } catch (NoSuchElementException e) {
            return -99;
        }
    }

    private int askIn(boolean model, int g, int what) {
        try {
            return model ? m.in(g, what) : x.in(g, what);
        } catch (NoSuchElementException e) {
            return -99;
        }
    }

    private int askOf(boolean model, int k, int what) {
        try {
            return model ? m.of(k, what) : x.of(k, what);
        } catch (NoSuchElementException e) {
            return -99;
        }
    }

    private void step() {
        int s = near(m.count(0));
        int g = near(m.count(1));
        int k = near(m.count(2));
        switch (pick(0, 15)) {
            case 0: shelf(); break;
            case 1: turn(s, pick(0, 9) == 0 ? pick(-1, 3) : pick(0, 2)); break;
            case 2: group(); break;
            case 3: grow(g, pick(0, 9) == 0 ? pick(-1, 101) : pick(0, 30)); break;
            case 4: case 5: case 6: book(g); break;
            case 7: change("gone(" + k + ")", x.gone(k), m.gone(k)); break;
            case 8: limit(pick(0, 2) == 0 ? pick(38, 402) : pick(40, 90)); break;
            case 9: case 10: plan(pick(0, 3) > 0 ? pick(0, 12) : pick(-1, 1000)); break;
            case 11: if (pick(0, 3) == 0) { change("drop()", x.drop(), m.drop()); } break;
            case 12: case 13: change("move()", x.move(), m.move()); break;
            case 14: change("day()", x.day(), m.day()); break;
            default: turn(s, 0); break;
        }
    }

    private void shelf() {
        int length = pick(0, 9) == 0 ? pick(8, 202) : pick(20, 120);
        int kind = pick(0, 9) == 0 ? pick(-1, 3) : pick(0, 1);
        if (m.count(0) < mostShelves || mostShelves == 12) {
            change("shelf(" + length + "," + kind + ")", x.shelf(length, kind), m.shelf(length, kind));
        }
    }

    private void turn(int s, int kind) {
        change("turn(" + s + "," + kind + ")", b(x.turn(s, kind)), b(m.turn(s, kind)));
    }

    private void group() {
        int growth = pick(0, 9) == 0 ? pick(-1, 101) : pick(0, 20);
        change("group(" + growth + ")", x.group(growth), m.group(growth));
    }

    private void grow(int g, int growth) {
        change("grow(" + g + "," + growth + ")", b(x.grow(g, growth)), b(m.grow(g, growth)));
    }

    private void book(int g) {
        int width = pick(0, 19) == 0 ? pick(-1, 42) : pick(1, mostWidth);
        if (m.count(2) < mostBooks) {
            change("book(" + g + "," + width + ")", x.book(g, width), m.book(g, width));
        }
    }

    private void limit(int l) {
        change("limit(" + l + ")", b(x.limit(l)), b(m.limit(l)));
    }

    private void plan(int y) {
        change("plan(" + y + ")", x.plan(y), m.plan(y));
    }

    private void askAll() {
        for (int what = -1; what <= 11; what++) {
            same("count(" + what + ")", x.count(what), m.count(what));
        }
        for (int what = -1; what <= 8; what++) {
            for (int s = -1; s <= m.count(0); s++) {
                same("on(" + s + "," + what + ")", askOn(false, s, what), askOn(true, s, what));
            }
            for (int g = -1; g <= m.count(1); g++) {
                same("in(" + g + "," + what + ")", askIn(false, g, what), askIn(true, g, what));
            }
            for (int k = -1; k <= m.count(2); k++) {
                same("of(" + k + "," + what + ")", askOf(false, k, what), askOf(true, k, what));
            }
            for (int k = -1; k <= m.count(6); k++) {
                same("planned(" + k + "," + what + ")", x.planned(k, what), m.planned(k, what));
            }
            same("left(" + what + ")", x.left(what), m.left(what));
        }
        for (int k = -1; k <= 41; k++) {
            for (int what = -1; what <= 5; what++) {
                same("log(" + k + "," + what + ")", x.log(k, what), m.log(k, what));
            }
        }
        for (int days = -1; days <= 6; days++) {
            same("enough(" + days + ")", x.enough(days), m.enough(days));
        }
        same("lasts()", x.lasts(), m.lasts());
    }

    private void askCuts() {
        int y = pick(0, 2) == 0 ? pick(-1, 1000) : pick(0, 10);
        for (int s = -1; s <= m.count(0); s++) {
            same("cut(" + y + "," + s + ")", x.cut(y, s), m.cut(y, s));
        }
        for (int what = -1; what <= 3; what++) {
            same("price(" + y + "," + what + ")", x.price(y, what), m.price(y, what));
        }
        same("tight()", x.tight(), m.tight());
        int g = near(m.count(1));
        int width = pick(0, 9) == 0 ? pick(-1, 42) : pick(1, 40);
        same("more(" + g + "," + width + ")", x.more(g, width), m.more(g, width));
        same("best(true)", x.best(true), m.best(true));
        same("best(false)", x.best(false), m.best(false));
    }

    private void run(int steps) {
        for (int i = 0; i < mostShelves / 2 + 1; i++) {
            shelf();
        }
        group();
        group();
        for (int i = 0; i < mostBooks - pick(0, 20); i++) {
            book(near(m.count(1)));
        }
        for (int i = 0; i < steps && !failed; i++) {
            step();
            askAll();
            if (i % 4 == 0) {
                askCuts();
            }
        }
    }

    public static void main(String[] args) {
        int runs = args.length > 0 ? Integer.parseInt(args[0]) : 100;
        long seed = args.length > 1 ? Long.parseLong(args[1]) : 1;
        for (int r = 0; r < runs && wrong < 3; r++) {
            new RandomRunsTest(seed + r, false).run(120);
        }
        for (int r = 0; r < runs / 5 && wrong < 3; r++) {
            new RandomRunsTest(seed + r, true).run(400);
        }
        System.out.println(calls + " answers held against the model, wrong runs: " + wrong);
        if (wrong != 0) {
            System.exit(1);
        }
    }
}
