import java.util.NoSuchElementException;

/** Each promise by hand: ordinary calls, the edges that the document names, wrong inputs. */
public final class PromisesTest {
    private static final int NONE = ShelfShift.NONE;
    private static final int[] WILD = {Integer.MIN_VALUE, -1000, -2, -1, 1000, Integer.MAX_VALUE};
    private static int wrong = 0;

    private static void due(String call, long got, long want) {
        if (got != want) {
            wrong++;
            System.out.println(call + " answered " + got + ", due is " + want);
        }
    }

    private static void due(String call, boolean got, boolean want) {
        due(call, got ? 1 : 0, want ? 1 : 0);
    }

    /** How many books the cuts for y have on each shelf. */
    private static void dueCuts(ShelfShift x, int y, int... counts) {
        for (int s = 0; s < counts.length; s++) {
            due("cut(" + y + "," + s + ")", x.cut(y, s), counts[s]);
        }
    }

    private static void duePrice(ShelfShift x, int y, int... parts) {
        for (int what = 0; what < 3; what++) {
            due("price(" + y + "," + what + ")", x.price(y, what), parts[what]);
        }
    }

    private static void dueLog(ShelfShift x, int k, int... parts) {
        for (int what = 0; what < 5; what++) {
            due("log(" + k + "," + what + ")", x.log(k, what), parts[what]);
        }
    }

    private static void duePlanned(ShelfShift x, int k, int... parts) {
        for (int what = 0; what < 7; what++) {
            due("planned(" + k + "," + what + ")", x.planned(k, what), parts[what]);
        }
    }

    private static void dueOf(ShelfShift x, int what, int... answers) {
        for (int b = 0; b < answers.length; b++) {
            due("of(" + b + "," + what + ")", x.of(b, what), answers[b]);
        }
    }

    private static void dueNoSuch(ShelfShift x, char call, int number, int what) {
        boolean thrown = false;
        try {
            int got = call == 'o' ? x.on(number, what) : call == 'i' ? x.in(number, what) : x.of(number, what);
            System.out.println("answered " + got);
        } catch (NoSuchElementException e) {
            thrown = true;
        }
        due(call + "(" + number + "," + what + ") throws", thrown, true);
    }

    private static ShelfShift withShelves(int... lengthsAndKinds) {
        ShelfShift x = new ShelfShift();
        for (int i = 0; i < lengthsAndKinds.length; i += 2) {
            x.shelf(lengthsAndKinds[i], lengthsAndKinds[i + 1]);
        }
        return x;
    }

    private static void books(ShelfShift x, int group, int... widths) {
        for (int width : widths) {
            x.book(group, width);
        }
    }

    /** Four books of 30, two on shelf 0 and two on 1; then 0 is closed and 2 is new: all must go right. */
    private static ShelfShift allToTheRight() {
        ShelfShift x = withShelves(80, 0, 80, 0);
        x.group(0);
        books(x, 0, 30, 30, 30, 30);
        x.shelf(80, 0);
        x.turn(0, 2);
        return x;
    }

    /** A plan with one move: book 1 from shelf 0 to 1. */
    private static ShelfShift withPlan() {
        ShelfShift x = withShelves(20, 0, 20, 0);
        x.group(2);
        books(x, 0, 10, 10);
        due("plan(1)", x.plan(1), 1);
        return x;
    }

    private static void duePlan(ShelfShift x, String after, boolean there) {
        due("a plan after " + after, x.count(8) == 1, there);
        due("its moves after " + after, x.count(6), there ? 1 : 0);
        due("left(0) after " + after, x.left(0), there ? 1 : NONE);
    }

    private static void promise1() {
        ShelfShift x = new ShelfShift();
        int[] counts = {0, 0, 0, 0, 0, 100, 0, 0, NONE, 0, 0, NONE};
        for (int what = 0; what < counts.length; what++) {
            due("new count(" + what + ")", x.count(what), counts[what]);
        }
        due("new lasts()", x.lasts(), 999);
        due("new best(false)", x.best(false), 999);
        due("new best(true)", x.best(true), 999);
        due("new tight()", x.tight(), NONE);
        due("new plan(0)", x.plan(0), 0);
        due("new cut(0,0)", x.cut(0, 0), NONE);
        duePrice(x, 0, 0, 0, 0);
        ShelfShift other = new ShelfShift();
        other.shelf(10, 0);
        due("another object's shelf", x.count(0), 0);
    }

    private static void promise2() {
        ShelfShift x = new ShelfShift();
        due("shelf(9,0)", x.shelf(9, 0), NONE);
        due("shelf(201,0)", x.shelf(201, 0), NONE);
        due("shelf(50,-1)", x.shelf(50, -1), NONE);
        due("shelf(50,3)", x.shelf(50, 3), NONE);
        due("shelf(10,0)", x.shelf(10, 0), 0);
        due("shelf(200,2)", x.shelf(200, 2), 1);
        for (int s = 2; s < 12; s++) {
            due("shelf(50,1)", x.shelf(50, 1), s);
        }
        due("a 13th shelf", x.shelf(50, 0), NONE);
        due("count(0)", x.count(0), 12);
        ShelfShift y = withPlan();
        y.shelf(9, 0);
        duePlan(y, "shelf(9,0)", true);
        y.shelf(10, 0);
        duePlan(y, "shelf(10,0)", false);
    }

    private static void promise3() {
        ShelfShift x = withPlan();
        for (int wild : WILD) {
            due("turn(" + wild + ",1)", x.turn(wild, 1), false);
            due("turn(0," + wild + ")", x.turn(0, wild), false);
        }
        due("turn(2,1)", x.turn(2, 1), false);
        due("turn(0,3)", x.turn(0, 3), false);
        due("turn(0,0)", x.turn(0, 0), false);
        duePlan(x, "turns that were none", true);
        due("turn(0,2)", x.turn(0, 2), true);
        due("its kind", x.on(0, 1), 2);
        due("books stay on it", x.on(0, 7), 2);
        duePlan(x, "turn(0,2)", false);
        due("turn(0,2) again", x.turn(0, 2), false);
        due("turn(0,1)", x.turn(0, 1), true);
    }

    private static void promise4() {
        ShelfShift x = new ShelfShift();
        due("group(-1)", x.group(-1), NONE);
        due("group(100)", x.group(100), NONE);
        for (int g = 0; g < 8; g++) {
            due("group", x.group(g == 0 ? 0 : 99), g);
        }
        due("a 9th group", x.group(5), NONE);
        due("count(1)", x.count(1), 8);
        ShelfShift y = withPlan();
        y.group(100);
        duePlan(y, "group(100)", true);
        y.group(0);
        duePlan(y, "group(0)", false);
    }

    private static void promise5() {
        ShelfShift x = withPlan();
        for (int wild : WILD) {
            due("grow(" + wild + ",1)", x.grow(wild, 1), false);
            due("grow(0," + wild + ")", x.grow(0, wild), false);
        }
        due("grow(1,5)", x.grow(1, 5), false);
        due("grow(0,2)", x.grow(0, 2), false);
        due("grow(0,100)", x.grow(0, 100), false);
        duePlan(x, "grows that were none", true);
        due("grow(0,99)", x.grow(0, 99), true);
        dueOf(x, 2, 50, 49);
        duePlan(x, "grow(0,99)", false);
        due("grow(0,0)", x.grow(0, 0), true);
        dueOf(x, 2, 0, 0);
    }

    private static void promise6() {
        ShelfShift x = withShelves(20, 0, 20, 0, 20, 1);
        x.group(0);
        x.group(0);
        due("book(1,10)", x.book(1, 10), 0);
        due("book(1,9)", x.book(1, 9), 1);
        due("book(2,1)", x.book(2, 1), NONE);
        due("book(-1,1)", x.book(-1, 1), NONE);
        due("book(0,0)", x.book(0, 0), NONE);
        due("book(0,41)", x.book(0, 41), NONE);
        due("book(0,21)", x.book(0, 21), NONE);
        dueOf(x, 3, 0, 0);
        // The new one comes ahead of both; the second of them makes room at once.
        due("book(0,8)", x.book(0, 8), 0);
        dueOf(x, 1, 8, 10, 9);
        dueOf(x, 3, 0, 0, 1);
        dueOf(x, 5, 0, 0, 1);
        dueLog(x, 0, 0, 0, 8, NONE, 0);
        dueLog(x, 1, 1, 1, 9, 0, 1);
        due("count(9)", x.count(9), 4);
        due("count(10)", x.count(10), 1);
        due("book(0,3), behind its group", x.book(0, 3), 1);
        due("book(0,20): the spare one must take some", x.book(0, 20), 2);
        dueOf(x, 3, 0, 0, 1, 2, 2);
        due("book(0,12): no room at all", x.book(0, 12), NONE);
        due("widths", x.count(3), 50);
        promise6Plan();
        promise6Sixty();
        promise6Left();
    }

    private static void promise6Plan() {
        ShelfShift x = withPlan();
        x.book(0, 30);
        duePlan(x, "a book that found no place", true);
        due("book(0,5)", x.book(0, 5), 2);
        duePlan(x, "book(0,5)", false);
    }

    private static void promise6Sixty() {
        ShelfShift x = withShelves(200, 0);
        x.group(5);
        for (int b = 0; b < 60; b++) {
            due("book " + b, x.book(0, 1), b);
        }
        due("a 61st book", x.book(0, 1), NONE);
        due("more with 60", x.more(0, 1), 0);
        due("count(2)", x.count(2), 60);
        x.gone(0);
        due("the 60th again", x.book(0, 1), 59);
    }

    /** Moves at once to the left too, told by old numbers, those to the right first. */
    private static void promise6Left() {
        ShelfShift x = withShelves(20, 2, 30, 0, 20, 0);
        x.group(0);
        x.group(0);
        x.group(0);
        books(x, 0, 10);
        books(x, 2, 10, 10);
        dueOf(x, 3, 1, 1, 1);
        x.turn(0, 0);
        x.turn(1, 1);
        // Without the spare shelf: 10 and the new 10 on shelf 0, the others on shelf 2.
        due("book(1,10)", x.book(1, 10), 1);
        dueOf(x, 3, 0, 0, 2, 2);
        dueLog(x, 0, 0, 1, 10, NONE, 0);
        dueLog(x, 1, 2, 0, 10, 1, 0);
        dueLog(x, 2, 1, 1, 10, 1, 2);
        dueLog(x, 3, 1, 2, 10, 1, 2);
        due("count(10)", x.count(10), 3);
    }

    private static void promise7() {
        ShelfShift x = withPlan();
        due("gone(2)", x.gone(2), NONE);
        for (int wild : WILD) {
            due("gone(" + wild + ")", x.gone(wild), NONE);
        }
        duePlan(x, "no such gone", true);
        x.move();
        due("gone(1)", x.gone(1), 1);
        dueLog(x, 0, 3, 1, 10, 1, NONE);
        due("count(2)", x.count(2), 1);
        due("its handling stays counted", x.count(10), 1);
        dueOf(x, 2, 2);
        due("gone(0)", x.gone(0), 0);
        due("no books", x.count(2), 0);
        ShelfShift y = withPlan();
        y.gone(0);
        duePlan(y, "gone(0)", false);
    }

    private static void promise8() {
        ShelfShift x = withPlan();
        due("limit(100), so it is", x.limit(100), false);
        due("limit(39)", x.limit(39), false);
        due("limit(401)", x.limit(401), false);
        for (int wild : WILD) {
            due("limit(" + wild + ")", x.limit(wild), false);
        }
        due("limit(40)", x.limit(40), true);
        due("limit(400)", x.limit(400), true);
        due("count(5)", x.count(5), 400);
        duePlan(x, "limit", true);
    }

    private static void promise9() {
        ShelfShift x = allToTheRight();
        x.shelf(50, 1);
        x.plan(0);
        x.move();
        int[] counts = {4, 1, 4, 120, 160, 100, 4, 1, 0, 5, 1};
        for (int what = 0; what < counts.length; what++) {
            due("count(" + what + ")", x.count(what), counts[what]);
        }
        due("count(11)", x.count(11), NONE);
        for (int wild : WILD) {
            due("count(" + wild + ")", x.count(wild), NONE);
        }
    }

    private static void promise10() {
        ShelfShift x = withShelves(30, 0, 40, 1, 50, 2);
        x.group(0);
        x.group(5);
        books(x, 0, 6);
        // 5 by 7: 5/7, 10/7, 20/7: 0, 1, 2, and one more each for 4 and for 1.
        books(x, 1, 1, 2, 4);
        int[] first = {30, 0, 13, 17, 5, 3, 0, 4};
        int[] second = {40, 1, 0, 40, 0, 999, NONE, 0};
        for (int what = 0; what < 8; what++) {
            due("on(0," + what + ")", x.on(0, what), first[what]);
            due("on(1," + what + ")", x.on(1, what), second[what]);
        }
        due("on(2,1)", x.on(2, 1), 2);
        dueNoSuch(x, 'o', 3, 0);
        dueNoSuch(x, 'o', 0, 8);
        for (int wild : WILD) {
            dueNoSuch(x, 'o', wild, 0);
            dueNoSuch(x, 'o', 0, wild);
        }
    }

    private static void promise11() {
        ShelfShift x = withShelves(20, 0, 20, 0, 20, 0);
        x.group(7);
        x.group(0);
        x.group(1);
        books(x, 0, 10);
        books(x, 2, 10, 11, 10);
        int[][] answers = {{7, 1, 10, 0, 1}, {0, 0, 0, NONE, 0}, {1, 3, 31, 1, 3}};
        for (int g = 0; g < 3; g++) {
            for (int what = 0; what < 5; what++) {
                due("in(" + g + "," + what + ")", x.in(g, what), answers[g][what]);
            }
        }
        dueNoSuch(x, 'i', 3, 0);
        dueNoSuch(x, 'i', 0, 5);
        for (int wild : WILD) {
            dueNoSuch(x, 'i', wild, 0);
            dueNoSuch(x, 'i', 0, wild);
        }
    }

    private static void promise12() {
        ShelfShift x = allToTheRight();
        dueOf(x, 6, NONE, NONE, NONE, NONE);
        x.plan(0);
        x.move();
        dueOf(x, 0, 0, 0, 0, 0);
        dueOf(x, 1, 30, 30, 30, 30);
        dueOf(x, 3, 0, 0, 1, 2);
        dueOf(x, 4, 0, 30, 0, 0);
        dueOf(x, 5, 0, 0, 0, 1);
        dueOf(x, 6, 1, 1, 2, 2);
        promise12Need();
        dueNoSuch(x, 'f', 4, 0);
        dueNoSuch(x, 'f', 0, 7);
        for (int wild : WILD) {
            dueNoSuch(x, 'f', wild, 0);
            dueNoSuch(x, 'f', 0, wild);
        }
    }

    private static void promise12Need() {
        ShelfShift x = withShelves(200, 0);
        x.group(10);
        x.group(5);
        books(x, 0, 3, 3, 3);
        dueOf(x, 2, 4, 3, 3);
        books(x, 1, 1, 2, 4);
        dueOf(x, 2, 4, 3, 3, 1, 1, 3);
        x.gone(0);
        dueOf(x, 2, 5, 5, 1, 1, 3);
        x.grow(1, 7);
        dueOf(x, 2, 5, 5, 1, 2, 4);
    }

    private static void promise13() {
        ShelfShift x = withShelves(30, 0, 20, 0, 10, 0);
        x.group(3);
        x.group(2);
        due("lasts without books", x.lasts(), 999);
        books(x, 0, 21);
        due("lasts: 9 by 3", x.lasts(), 3);
        books(x, 1, 15);
        due("lasts: 5 by 2", x.lasts(), 2);
        x.grow(0, 0);
        x.grow(1, 0);
        due("lasts without growth", x.lasts(), 999);
        x.grow(1, 6);
        due("lasts less than a year", x.lasts(), 0);
    }

    private static ShelfShift threeOfEight() {
        ShelfShift x = withShelves(20, 0, 20, 0, 20, 1);
        x.group(2);
        books(x, 0, 8, 8, 8);
        dueOf(x, 2, 1, 1, 0);
        dueOf(x, 3, 0, 0, 1);
        return x;
    }

    private static void promise14() {
        ShelfShift x = threeOfEight();
        dueCuts(x, 2, 2, 1, 0);
        dueCuts(x, 3, 1, 2, 0);
        dueCuts(x, 4, 1, 2, 0);
        dueCuts(x, 5, 1, 1, 1);
        dueCuts(x, 12, 1, 1, 1);
        dueCuts(x, 13, NONE, NONE, NONE);
        due("cut(0,3)", x.cut(0, 3), NONE);
        due("cut(1000,0)", x.cut(1000, 0), NONE);
        for (int wild : WILD) {
            due("cut(" + wild + ",0)", x.cut(wild, 0), NONE);
            due("cut(0," + wild + ")", x.cut(0, wild), NONE);
        }
        x.turn(1, 2);
        dueCuts(x, 0, 2, 0, 1);
        x.turn(2, 2);
        dueCuts(x, 0, NONE, NONE, NONE);
        fewerBooksFirst();
        mostOnTheLeft();
    }

    /** 10 to the right is one book, 5 and 5 to the left are two: the third number decides. */
    private static void fewerBooksFirst() {
        ShelfShift x = withShelves(20, 2, 20, 0, 20, 0);
        x.group(4);
        books(x, 0, 5, 5, 10);
        x.turn(0, 0);
        dueOf(x, 2, 1, 1, 2);
        dueCuts(x, 0, 0, 3, 0);
        dueCuts(x, 2, 0, 2, 1);
        duePrice(x, 2, 0, 10, 1);
    }

    private static void mostOnTheLeft() {
        ShelfShift x = withShelves(20, 2, 20, 0, 20, 0);
        x.group(2);
        books(x, 0, 10, 10);
        x.turn(0, 0);
        dueCuts(x, 0, 0, 2, 0);
        dueCuts(x, 1, 1, 1, 0);
        duePrice(x, 1, 0, 10, 1);
    }

    private static void promise15() {
        ShelfShift x = threeOfEight();
        duePrice(x, 2, 0, 0, 0);
        duePrice(x, 3, 0, 8, 1);
        duePrice(x, 5, 1, 16, 2);
        duePrice(x, 13, NONE, NONE, NONE);
        due("price(0,3)", x.price(0, 3), NONE);
        due("price(1000,0)", x.price(1000, 0), NONE);
        for (int wild : WILD) {
            due("price(" + wild + ",0)", x.price(wild, 0), NONE);
            due("price(0," + wild + ")", x.price(0, wild), NONE);
        }
        // A spare shelf less is worth any move.
        ShelfShift y = withShelves(20, 0, 20, 0, 20, 0);
        y.group(0);
        books(y, 0, 10, 10, 10, 10);
        y.turn(1, 1);
        dueCuts(y, 0, 2, 0, 2);
        duePrice(y, 0, 0, 20, 2);
    }

    private static void promise16() {
        ShelfShift x = threeOfEight();
        due("best(true)", x.best(true), 4);
        due("best(false)", x.best(false), 12);
        x.turn(1, 1);
        due("best(true), one shelf", x.best(true), NONE);
        due("best(false), still", x.best(false), 12);
        x.turn(1, 2);
        x.turn(2, 2);
        due("best(false), one shelf", x.best(false), NONE);
        x.turn(1, 0);
        x.grow(0, 0);
        due("best without growth", x.best(true), 999);
        ShelfShift y = withShelves(200, 0);
        y.group(1);
        books(y, 0, 1);
        due("best(true), 199 by 1", y.best(true), 199);
    }

    private static void promise17() {
        ShelfShift x = withShelves(20, 0, 20, 1, 20, 0, 20, 0);
        x.group(9);
        due("tight without books", x.tight(), NONE);
        books(x, 0, 10);
        due("tight()", x.tight(), 0);
        books(x, 0, 10);
        due("tight() full", x.tight(), 0);
        books(x, 0, 10);
        due("tight() past the spare one", x.tight(), 2);
        x.turn(2, 2);
        due("tight() past the closed one", x.tight(), 3);
        x.turn(3, 1);
        due("tight() without open room", x.tight(), NONE);
    }

    private static void promise18() {
        ShelfShift x = withShelves(20, 0, 20, 1, 20, 2);
        x.group(3);
        due("more(0,10)", x.more(0, 10), 4);
        due("more(0,7)", x.more(0, 7), 4);
        due("more(0,6)", x.more(0, 6), 6);
        due("more(0,21)", x.more(0, 21), 0);
        due("more(0,1)", x.more(0, 1), 40);
        due("more(1,1)", x.more(1, 1), NONE);
        due("more(0,0)", x.more(0, 0), NONE);
        due("more(0,41)", x.more(0, 41), NONE);
        for (int wild : WILD) {
            due("more(" + wild + ",1)", x.more(wild, 1), NONE);
            due("more(0," + wild + ")", x.more(0, wild), NONE);
        }
        x.group(0);
        books(x, 1, 11);
        due("more(0,10) ahead of 11", x.more(0, 10), 2);
        due("more(1,10) behind 11", x.more(1, 10), 2);
        due("more(0,9) ahead of 11", x.more(0, 9), 3);
        due("nothing came", x.count(2), 1);
        x.shelf(200, 0);
        due("more, 60 at most", x.more(1, 1), 59);
        x.turn(0, 2);
        x.turn(1, 2);
        x.turn(3, 2);
        due("more with none for 0", x.more(0, 1), 0);
    }

    private static void promise19() {
        ShelfShift x = allToTheRight();
        due("plan(-1)", x.plan(-1), NONE);
        due("plan(1000)", x.plan(1000), NONE);
        due("plan(999)", x.plan(999), 4);
        due("its Y", x.count(8), 999);
        x.move();
        due("plan(1000)", x.plan(1000), NONE);
        due("it stays", x.count(7), 1);
        due("plan(0) instead", x.plan(0), 3);
        due("none done", x.count(7), 0);
        due("its Y", x.count(8), 0);
        ShelfShift y = withPlan();
        due("plan(11): no cuts", y.plan(11), NONE);
        duePlan(y, "plan(11)", true);
        due("plan(0): no moves", y.plan(0), 0);
        duePlan(y, "plan(0)", false);
        due("nothing moved", y.count(10), 0);
    }

    private static void promise20() {
        ShelfShift x = allToTheRight();
        due("drop() without", x.drop(), NONE);
        x.plan(0);
        x.move();
        due("drop()", x.drop(), 3);
        due("count(6)", x.count(6), 0);
        due("count(7)", x.count(7), 0);
        dueOf(x, 3, 0, 0, 1, 2);
        dueOf(x, 6, NONE, NONE, NONE, NONE);
        due("drop() again", x.drop(), NONE);
    }

    private static void promise21() {
        ShelfShift x = allToTheRight();
        due("move() without", x.move(), NONE);
        x.plan(0);
        for (int b = 3; b >= 0; b--) {
            due("done", x.count(7), 3 - b);
            due("move()", x.move(), b);
            dueLog(x, 0, 1, b, 30, b / 2, b / 2 + 1);
        }
        due("the last one ends it", x.count(8), NONE);
        due("move() again", x.move(), NONE);
        dueOf(x, 3, 1, 1, 2, 2);
        dueOf(x, 5, 1, 1, 1, 1);
        x.turn(0, 0);
        x.turn(2, 2);
        due("plan back", x.plan(0), 4);
        for (int b = 0; b < 4; b++) {
            due("move()", x.move(), b);
            dueLog(x, 0, 2, b, 30, b / 2 + 1, b / 2);
        }
        dueOf(x, 5, 2, 2, 2, 2);
        due("count(10)", x.count(10), 8);
    }

    private static void promise22() {
        ShelfShift x = allToTheRight();
        due("day() without", x.day(), NONE);
        x.plan(0);
        due("day(): 90 of 100", x.day(), 3);
        due("done", x.count(7), 3);
        due("day(): the last", x.day(), 1);
        due("day() behind it", x.day(), NONE);
        ShelfShift y = allToTheRight();
        y.plan(0);
        y.limit(60);
        y.move();
        due("day(): 60 of 60", y.day(), 2);
        y.limit(40);
        due("day(): 30 of 40", y.day(), 1);
        due("count(6)", y.count(6), 0);
    }

    private static void promise23() {
        ShelfShift x = allToTheRight();
        due("planned without", x.planned(0, 0), NONE);
        x.plan(0);
        x.move();
        duePlanned(x, 0, 3, 1, 2, 1, 0, 0, 0);
        duePlanned(x, 1, 2, 1, 2, 1, 0, 0, 0);
        duePlanned(x, 2, 1, 0, 1, 1, 0, 1, 2);
        duePlanned(x, 3, 0, 0, 1, 1, 1, 1, 2);
        x.limit(40);
        for (int k = 0; k < 4; k++) {
            due("one a day", x.planned(k, 4), k);
        }
        due("planned(4,0)", x.planned(4, 0), NONE);
        due("planned(0,7)", x.planned(0, 7), NONE);
        for (int wild : WILD) {
            due("planned(" + wild + ",0)", x.planned(wild, 0), NONE);
            due("planned(0," + wild + ")", x.planned(0, wild), NONE);
        }
        promise23BothWays();
    }

    private static void promise23BothWays() {
        ShelfShift x = withShelves(20, 2, 40, 0, 20, 0);
        x.group(0);
        books(x, 0, 10, 10, 11, 9);
        x.turn(0, 0);
        x.turn(1, 1);
        due("plan(0)", x.plan(0), 4);
        duePlanned(x, 0, 3, 1, 2, 1, 0, 0, 0);
        duePlanned(x, 1, 2, 1, 2, 1, 0, 0, 0);
        duePlanned(x, 2, 0, 1, 0, 2, 0, 1, 0);
        duePlanned(x, 3, 1, 1, 0, 2, 0, 1, 0);
        due("left(4)", x.left(4), 2);
        due("left(3)", x.left(3), 2);
    }

    private static void promise24() {
        ShelfShift x = allToTheRight();
        due("left without", x.left(0), NONE);
        x.plan(0);
        x.limit(60);
        int[][] left = {{4, 120, 2, 2, 4}, {3, 90, 2, 2, 3}, {2, 60, 1, 1, 2}, {1, 30, 1, 1, 1}};
        for (int[] row : left) {
            for (int what = 0; what < 5; what++) {
                due("left(" + what + ")", x.left(what), row[what]);
            }
            due("left(5)", x.left(5), NONE);
            due("left(-1)", x.left(-1), NONE);
            x.move();
        }
        due("left behind the last", x.left(0), NONE);
    }

    private static void promise25() {
        ShelfShift x = allToTheRight();
        due("enough without", x.enough(5), NONE);
        x.plan(0);
        due("enough(0)", x.enough(0), NONE);
        due("enough(-1)", x.enough(-1), NONE);
        due("enough(min)", x.enough(Integer.MIN_VALUE), NONE);
        due("enough(1)", x.enough(1), 120);
        due("enough(2)", x.enough(2), 60);
        due("enough(3)", x.enough(3), 60);
        due("enough(4)", x.enough(4), 40);
        due("enough(max)", x.enough(Integer.MAX_VALUE), 40);
        x.move();
        due("enough(1) of three", x.enough(1), 90);
        due("LIMIT stays", x.count(5), 100);
        promise25Most();
    }

    /** Moves of 400 in all, and of more: the greatest LIMIT is just enough, and is not. */
    private static void promise25Most() {
        ShelfShift x = withShelves(200, 0, 200, 0, 200, 0, 200, 0, 200, 0);
        x.group(0);
        books(x, 0, 40, 40, 40, 40, 40, 40, 40, 40, 40, 40);
        x.turn(0, 2);
        x.turn(1, 2);
        due("plan(0)", x.plan(0), 10);
        due("enough(1) of 400", x.enough(1), 400);
        x.book(0, 40);
        x.turn(2, 2);
        x.turn(0, 0);
        x.turn(1, 0);
        x.turn(3, 2);
        x.turn(4, 2);
        x.shelf(200, 0);
        due("plan(0) of more", x.plan(0), 11);
        due("enough(1) of 440", x.enough(1), NONE);
        due("enough(2) of 440", x.enough(2), 240);
    }

    private static void promise26() {
        ShelfShift x = withShelves(200, 0);
        due("log(0,0) of none", x.log(0, 0), NONE);
        x.group(0);
        for (int b = 0; b < 39; b++) {
            x.book(0, 1 + b % 3);
        }
        due("entries", x.count(9), 39);
        due("log(39,0)", x.log(39, 0), NONE);
        x.gone(4);
        due("entries", x.count(9), 40);
        dueLog(x, 39, 0, 0, 1, NONE, 0);
        x.gone(0);
        due("40 at most", x.count(9), 40);
        dueLog(x, 0, 3, 0, 1, 0, NONE);
        dueLog(x, 1, 3, 4, 2, 0, NONE);
        dueLog(x, 2, 0, 38, 3, NONE, 0);
        dueLog(x, 39, 0, 1, 2, NONE, 0);
        due("log(40,0)", x.log(40, 0), NONE);
        due("log(0,5)", x.log(0, 5), NONE);
        for (int wild : WILD) {
            due("log(" + wild + ",0)", x.log(wild, 0), NONE);
            due("log(0," + wild + ")", x.log(0, wild), NONE);
        }
    }

    public static void main(String[] args) {
        promise1();
        promise2();
        promise3();
        promise4();
        promise5();
        promise6();
        promise7();
        promise8();
        promise9();
        promise10();
        promise11();
        promise12();
        promise13();
        promise14();
        promise15();
        promise16();
        promise17();
        promise18();
        promise19();
        promise20();
        promise21();
        promise22();
        promise23();
        promise24();
        promise25();
        promise26();
        System.out.println(wrong == 0 ? "all promises are kept" : wrong + " answers are not as due");
        if (wrong != 0) {
            System.exit(1);
        }
    }
}
