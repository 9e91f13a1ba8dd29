/** The promises of the document, sentence by sentence: each that names an edge has a test of its own. */
public final class PromiseEdgesTest {
    /** Two books of 10 on shelf 0; a plan by which the second one goes to shelf 1. */
    private static final String ONE =
        "shelf 20 0; shelf 20 0; group 2; book 0 10; book 0 10; plan 1 = 1";
    /** Four books of 30: two on shelf 0, two on shelf 1; then 0 is closed, 2 is new: all go right. */
    private static final String RIGHT =
        "shelf 80 0; shelf 80 0; group 0; 4x book 0 30; shelf 80 0; turn 0 2; plan 0 = 4";
    /** 10, 10, 11, 9 on shelf 1, which is spare then: two go right, two go left. */
    private static final String BOTH =
        "shelf 20 2; shelf 40 0; shelf 20 0; group 0; book 0 10; book 0 10; book 0 11; book 0 9;"
        + "turn 0 0; turn 1 1; plan 0 = 4";
    /** 8, 8 on shelf 0, 8 on shelf 1, a spare shelf behind them; needs 1, 1, 0. */
    private static final String EIGHTS =
        "shelf 20 0; shelf 20 0; shelf 20 1; group 2; book 0 8; book 0 8; book 0 8";

    private static void run(String... texts) {
        new Script(texts);
    }

    // ---- promise 1: a new object

    @Says(at = "Promise 1", value = "No SHELVES, GROUPS, BOOKS.")
    private static void newObject() {
        run("count * = 0 0 0 0 0 100 0 0 NONE 0 0 NONE; on 0 0 = throws; in 0 0 = throws; of 0 0 = throws");
        run("lasts = 999; cut 0 0 = NONE; tight = NONE; more 0 1 = NONE; book 0 1 = NONE; gone 0 = NONE",
            "turn 0 1 = false",
            "grow 0 1 = false; drop = NONE; move = NONE; day = NONE; planned 0 0 = NONE; left 0 = NONE",
            "enough 1 = NONE",
            "log 0 0 = NONE; count * = 0 0 0 0 0 100 0 0 NONE 0 0 NONE");
        // Objects share nothing.
        run(BOTH);
        run("count * = 0 0 0 0 0 100 0 0 NONE 0 0 NONE");
    }

    @Says(at = "Promise 1", value = "No SHELVES, GROUPS, BOOKS.")
    private static void cutsWithoutBooks() {
        // Nothing has to stand anywhere: there are cuts, and nothing moves.
        run("best true = 999; best false = 999; price 0 * = 0 0 0; price 999 * = 0 0 0; plan 0 = 0; plan 999 = 0");
        run("shelf 10 2; cut 0 0 = 0; cut 999 0 = 0; best true = 999; tight = NONE; group 5; lasts = 999");
    }

    // ---- promise 2: shelf

    @Says(at = "Promise 2", value = "A SHELF comes at the right: its number.")
    private static void shelfAtTheRight() {
        run("shelf 10 0 = 0; shelf 20 1 = 1; shelf 30 2 = 2; on * 0 = 10 20 30; on * 1 = 0 1 2; on * 7 = 0 0 0");
        run("shelf 20 0; group 0; book 0 20; shelf 30 0 = 1; on * 0 = 20 30; of 0 3 = 0; book 0 30; of 1 3 = 1");
    }

    @Says(at = "Promise 2", value = "NONE: there are 12")
    private static void noThirteenthShelf() {
        run("11x shelf 50 0; shelf 50 0 = 11; shelf 50 0 = NONE; shelf 50 1 = NONE; shelf 50 2 = NONE",
            "count 0 = 12");
        Script.stays("12x shelf 20 0; group 2; book 0 10; book 0 10; plan 1 = 1", "shelf 50 0 = NONE");
    }

    @Says(at = "Promise 2", value = "a LENGTH, KIND that can't be.")
    private static void noSuchLengthOrKind() {
        run("shelf 9 0 = NONE; shelf 201 0 = NONE; shelf WILD 0 = NONE; shelf 50 -1 = NONE; shelf 50 3 = NONE",
            "shelf 50 WILD = NONE; shelf WILD WILD = NONE; count 0 = 0; shelf 10 2 = 0; shelf 200 0 = 1");
        Script.stays(ONE, "shelf 9 0 = NONE", "shelf 201 0 = NONE", "shelf 50 -1 = NONE", "shelf 50 3 = NONE");
    }

    // ---- promise 3: turn

    @Says(at = "Promise 3", value = "KIND of a SHELF is another one (BOOKS stay on it): true.")
    private static void turnedWithItsBooks() {
        run("shelf 20 0; shelf 20 0; group 0; book 0 10; turn 0 2 = true; on 0 1 = 2; on 0 7 = 1; of 0 3 = 0",
            "turn 0 1 = true; on 0 1 = 1; turn 0 0 = true; on * 1 = 0 0; of 0 3 = 0; of 0 5 = 0; count 9 = 1");
    }

    @Says(at = "Promise 3", value = "false: there is none such")
    private static void turnOfNoShelf() {
        run("turn 0 0 = false; turn 0 1 = false; shelf 20 0; turn 1 1 = false; turn -1 1 = false",
            "turn WILD 1 = false; on 0 1 = 0");
        run("12x shelf 20 0; turn 11 1 = true; turn 12 1 = false");
        Script.stays(ONE, "turn 2 1 = false", "turn -1 2 = false");
    }

    @Says(at = "Promise 3", value = "it is so")
    private static void turnToTheSame() {
        run("shelf 20 0; shelf 20 1; shelf 20 2; turn 0 0 = false; turn 1 1 = false; turn 2 2 = false",
            "on * 1 = 0 1 2");
        run("shelf 20 0; turn 0 2 = true; turn 0 2 = false; turn 0 0 = true; turn 0 0 = false");
        Script.stays(ONE, "turn 0 0 = false", "turn 1 0 = false");
    }

    @Says(at = "Promise 3", value = "it can't be.")
    private static void turnToNoKind() {
        run("shelf 20 0; turn 0 3 = false; turn 0 -1 = false; turn 0 WILD = false; on 0 1 = 0");
        Script.stays(ONE, "turn 0 3 = false", "turn 0 -1 = false");
    }

    // ---- promise 4: group

    @Says(at = "Promise 4", value = "A GROUP comes behind all: its number.")
    private static void groupBehindAll() {
        run("group 5 = 0; group 5 = 1; group 0 = 2; in * 0 = 5 5 0; in * 1 = 0 0 0");
        run("shelf 50 0; group 1; book 0 5; group 2 = 1; book 1 6 = 1; book 0 7 = 1; of * 0 = 0 0 1");
    }

    @Says(at = "Promise 4", value = "NONE: there are 8")
    private static void noNinthGroup() {
        run("7x group 5; group 5 = 7; group 5 = NONE; group 0 = NONE; count 1 = 8");
        Script.stays("shelf 20 0; shelf 20 0; 8x group 2; book 7 10; book 7 10; plan 1 = 1", "group 5 = NONE");
    }

    @Says(at = "Promise 4", value = "a GROWTH that can't be.")
    private static void noSuchGrowth() {
        run("group -1 = NONE; group 100 = NONE; group WILD = NONE; count 1 = 0; group 0 = 0; group 99 = 1");
        Script.stays(ONE, "group -1 = NONE", "group 100 = NONE");
    }

    // ---- promise 5: grow

    @Says(at = "Promise 5", value = "GROWTH of a GROUP is another one: true.")
    private static void grown() {
        run("shelf 50 0; group 2; group 3; book 0 10; book 0 10; book 1 5; grow 0 99 = true; in * 0 = 99 3",
            "of * 2 = 50 49 3",
            "grow 0 0 = true; of * 2 = 0 0 3; grow 1 4 = true; of * 2 = 0 0 4");
        run("group 2; grow 0 5 = true; in 0 0 = 5; shelf 50 0; book 0 5; of 0 2 = 5");
    }

    @Says(at = "Promise 5", value = "false: likewise as turn().")
    private static void growOfNoGroup() {
        run("grow 0 0 = false; group 2; grow 1 5 = false; grow -1 5 = false; grow WILD 5 = false; in 0 0 = 2");
        run("8x group 2; grow 7 5 = true; grow 8 5 = false");
        Script.stays(ONE, "grow 1 5 = false", "grow -1 5 = false");
    }

    @Says(at = "Promise 5", value = "false: likewise as turn().")
    private static void growToTheSame() {
        run("group 2; grow 0 2 = false; grow 0 3 = true; grow 0 3 = false; in 0 0 = 3; group 0; grow 1 0 = false");
        Script.stays(ONE, "grow 0 2 = false");
    }

    @Says(at = "Promise 5", value = "false: likewise as turn().")
    private static void growToNoGrowth() {
        run("group 2; grow 0 -1 = false; grow 0 100 = false; grow 0 WILD = false; in 0 0 = 2; grow 0 99 = true");
        Script.stays(ONE, "grow 0 -1 = false", "grow 0 100 = false");
    }

    // ---- promise 6: book

    @Says(at = "Promise 6", value = "A BOOK comes: its number.")
    private static void bookComes() {
        run("shelf 50 0; group 0; group 0; book 1 5 = 0; book 1 6 = 1; book 0 7 = 0; book 1 8 = 3; book 0 9 = 1",
            "count 2 = 5",
            "of * 1 = 7 9 5 6 8; in * 1 = 2 3");
        run("shelf 40 2; shelf 40 1; group 99; book 0 40 = 0; of 0 3 = 1; on 1 3 = 0");
    }

    @Says(at = "Promise 6", value = "NONE: there are 60")
    private static void noSixtyFirstBook() {
        run("shelf 200 0; group 0; group 0; 59x book 0 1; book 1 1 = 59; book 0 1 = NONE; book 1 1 = NONE",
            "count 2 = 60");
        Script.stays("shelf 50 0; shelf 60 0; group 2; 60x book 0 1; plan 10 = 20", "book 0 1 = NONE");
    }

    @Says(at = "Promise 6", value = "no such GROUP, WIDTH")
    private static void noSuchGroupOrWidth() {
        run("shelf 50 0; book 0 5 = NONE; group 0; book 1 5 = NONE; book -1 5 = NONE; book WILD 5 = NONE",
            "book 0 0 = NONE",
            "book 0 41 = NONE; book 0 WILD = NONE; count 2 = 0; count 9 = 0; book 0 1 = 0; book 0 40 = 1");
        Script.stays(ONE, "book 1 5 = NONE", "book -1 5 = NONE", "book 0 0 = NONE", "book 0 41 = NONE");
    }

    @Says(at = "Promise 6", value = "there are no CUTS for 0 with it.")
    private static void noPlaceForABook() {
        run("group 0; book 0 1 = NONE; shelf 50 2; book 0 1 = NONE; turn 0 1; book 0 1 = 0");
        run("shelf 20 0; shelf 20 0; group 0; book 0 21 = NONE; book 0 20 = 0; book 0 20 = 1; book 0 1 = NONE",
            "count 2 = 2");
        // 9 more would have room, but not in one piece.
        run("shelf 20 0; shelf 20 0; group 0; group 0; book 0 15; book 1 15; book 0 6 = NONE; book 1 6 = NONE",
            "book 0 5 = 1");
        // There is room for it, but the book on the closed shelf has no place to go.
        run("shelf 20 0; shelf 20 0; group 0; group 0; book 0 15; book 1 10; turn 0 2; book 1 1 = NONE",
            "of * 3 = 0 1");
        Script.stays(ONE, "book 0 21 = NONE", "book 0 40 = NONE");
        Script.stays(BOTH + "; move", "book 0 31 = NONE", "book 0 40 = NONE");
    }

    // ---- promise 7: gone

    @Says(at = "Promise 7", value = "A BOOK goes: its SHELF.")
    private static void bookGoes() {
        run("shelf 20 0; shelf 20 0; group 4; group 3; 2x book 0 10; book 1 10; gone 2 = 1; gone 0 = 0",
            "of * 1 = 10; of * 2 = 4",
            "gone 0 = 0; count 2 = 0; count 3 = 0; on * 2 = 0 0; on * 6 = NONE NONE; in * 3 = NONE NONE",
            "gone 0 = NONE");
        run("shelf 20 0; group 0; book 0 10; turn 0 2; gone 0 = 0; on 0 7 = 0");
        run("shelf 20 0; shelf 20 0; group 4; group 3; book 0 20; book 1 2; book 1 1; gone 0 = 0; of 0..1 0 = 1",
            "of 0..1 1 = 2 1",
            "of 0..1 2 = 2 1; of 0..1 3 = 1; in * 1 = 0 2; turn 1 2; price 0 * = 0 3 2");
        // The last of sixty, the first of sixty.
        run("shelf 200 0; group 0; 60x book 0 1; gone 59 = 0; gone 0 = 0; count 2 = 58; of 57 1 = 1",
            "of 58 1 = throws");
    }

    @Says(at = "Promise 7", value = "NONE: there is none such.")
    private static void noSuchBookGoes() {
        run("gone 0 = NONE; shelf 20 0; group 0; book 0 5; gone 1 = NONE; gone -1 = NONE; gone WILD = NONE",
            "count 2 = 1; count 9 = 1");
        run("shelf 200 0; group 0; 60x book 0 1; gone 60 = NONE; gone 61 = NONE");
        Script.stays(ONE, "gone 2 = NONE", "gone -1 = NONE");
    }

    // ---- promise 8: limit

    @Says(at = "Promise 8", value = "LIMIT is another number: true.")
    private static void otherLimit() {
        run("limit 40 = true; count 5 = 40; limit 400 = true; count 5 = 400; limit 101 = true; count 5 = 101");
        run(RIGHT, "limit 60 = true; left 2 = 2; count 6 = 4; count 8 = 0");
    }

    @Says(at = "Promise 8", value = "false: it is so")
    private static void sameLimit() {
        run("limit 100 = false; limit 99 = true; limit 99 = false; limit 100 = true; count 5 = 100");
        Script.stays(ONE, "limit 100 = false");
    }

    @Says(at = "Promise 8", value = "it can't be.")
    private static void noSuchLimit() {
        run("limit 39 = false; limit 401 = false; limit 0 = false; limit WILD = false; count 5 = 100");
        Script.stays(ONE, "limit 39 = false", "limit 401 = false");
    }

    // ---- promise 9: count

    @Says(at = "Promise 9", value = {"What 0: SHELVES, 1: GROUPS, 2: BOOKS, 3: all WIDTHS", "5: LIMIT"})
    private static void counts() {
        run("count 0..3 = 0; shelf 50 0; shelf 50 1; shelf 50 2; group 0; group 5; book 0 7; book 1 8; book 0 9",
            "limit 40",
            "count 0..3 = 3 2 3 24; count 5 = 40; gone 0; count 0..3 = 3 2 2 17");
        Script.stays(BOTH, "count 6 = 4", "count 11 = NONE");
    }

    @Says(at = "Promise 9", value = "4: all LENGTHS of OPEN SHELVES")
    private static void openLengths() {
        run("count 4 = 0; shelf 50 1; shelf 60 2; count 4 = 0; shelf 70 0; count 4 = 70; shelf 10 0; count 4 = 80",
            "turn 0 0; count 4 = 130; turn 2 2; count 4 = 60; turn 3 1; count 4 = 50");
        run("12x shelf 200 0; count 4 = 2400");
    }

    @Says(at = "Promise 9", value = {"6: MOVES of the PLAN (0 without)", "7: those that are done"})
    private static void countsOfMoves() {
        run("count 6 = 0; count 7 = 0");
        run(RIGHT, "count 6 = 4; count 7 = 0; move; count 6 = 4; count 7 = 1; 2x move; count 6 = 4; count 7 = 3",
            "move; count 6 = 0; count 7 = 0");
        run(RIGHT, "move; drop; count 6 = 0; count 7 = 0");
    }

    @Says(at = "Promise 9", value = "8: its Y (NONE without)")
    private static void yearsOfThePlan() {
        run("count 8 = NONE; shelf 20 0; plan 7 = 0; count 8 = NONE");
        run(RIGHT, "count 8 = 0; plan 999 = 4; count 8 = 999; drop; count 8 = NONE");
        run(ONE, "count 8 = 1; plan 5 = 1; count 8 = 5; move; count 8 = NONE");
    }

    @Says(at = "Promise 9", value = "9: entries of THE LOG")
    private static void countOfEntries() {
        run("count 9 = 0; shelf 200 0; group 0; book 0 1; count 9 = 1; gone 0; count 9 = 2; 38x book 0 1",
            "count 9 = 40",
            "book 0 1; count 9 = 40; gone 0; count 9 = 40");
    }

    @Says(at = "Promise 9", value = "10: how often BOOKS were HANDLED, those that went, too.")
    private static void countOfHandling() {
        run(RIGHT, "count 10 = 0; move; move; count 10 = 2; gone 3; count 10 = 2; gone 0; count 10 = 2",
            "plan 0 = 1; move",
            "count 10 = 3; gone 0; gone 0; count 2 = 0; count 10 = 3");
    }

    @Says(at = "Promise 9", value = "NONE for another what.")
    private static void noSuchCount() {
        run(RIGHT, "count 11 = NONE; count -1 = NONE; count WILD = NONE");
    }

    // ---- promise 10: on

    @Says(at = "Promise 10", value = {"Of a SHELF, what 0: LENGTH, 1: KIND, 2: LOAD, 3: ROOM, 4: RATE",
        "5: how many years it LASTS"})
    private static void ofAShelf() {
        run("shelf 30 0; shelf 40 1; shelf 50 2; group 0; group 5; book 0 6; book 1 1; book 1 2; book 1 4",
            "on 0 * = 30 0 13 17 5 3 0 4; on 1 * = 40 1 0 40 0 999 NONE 0; on 2 * = 50 2 0 50 0 999 NONE 0");
        run("shelf 10 0; group 99; book 0 10; on 0 * = 10 0 10 0 99 0 0 1");
        Script.stays(BOTH, "on 0 0 = 20", "on 3 0 = throws", "on 0 8 = throws");
    }

    @Says(at = "Promise 10", value = {"6: its first BOOK (NONE)", "7: how many."})
    private static void booksOnAShelf() {
        run("shelf 20 0; shelf 20 0; shelf 20 0; on 0 6 = NONE; on 0 7 = 0; group 0; 3x book 0 10",
            "on 0..2 6 = 0 2 NONE",
            "on 0..2 7 = 2 1 0; gone 0; on 0..2 6 = 0 1 NONE; gone 0; on 0..2 6 = NONE 0 NONE; on 0..2 7 = 0 1 0");
    }

    @Says(at = "Promise 10", value = "NoSuchElementException: there is none such")
    private static void noSuchShelf() {
        run("on 0 0..7 = throws; shelf 20 0; on 1 0..7 = throws; on -1 0..7 = throws; on WILD 0 = throws",
            "on WILD WILD = throws");
        run("12x shelf 20 0; on 11 0 = 20; on 12 0 = throws; on 13 0 = throws");
    }

    @Says(at = "Promise 10", value = "another what.")
    private static void noSuchOn() {
        run("shelf 20 0; on 0 8 = throws; on 0 -1 = throws; on 0 WILD = throws; on 0 0 = 20");
    }

    // ---- promise 11: in

    @Says(at = "Promise 11", value = "Of a GROUP, what 0: GROWTH, 1: BOOKS, 2: all WIDTHS")
    private static void ofAGroup() {
        run("shelf 90 0; group 7; group 0; group 99; book 0 10; book 2 10; book 2 11; in 0 0..2 = 7 1 10",
            "in 1 0..2 = 0 0 0",
            "in 2 0..2 = 99 2 21");
        Script.stays(BOTH, "in 0 0 = 0", "in 1 0 = throws", "in 0 5 = throws");
    }

    @Says(at = "Promise 11", value = "3: its first BOOK (NONE)")
    private static void firstOfAGroup() {
        run("shelf 90 0; group 0; group 0; group 0; in * 3 = NONE NONE NONE; book 2 5; in * 3 = NONE NONE 0",
            "book 0 5; book 0 5",
            "in * 3 = 0 NONE 2; gone 2; in * 3 = 0 NONE NONE");
    }

    @Says(at = "Promise 11", value = "4: on how many SHELVES it stands.")
    private static void shelvesOfAGroup() {
        run("shelf 20 0; shelf 20 0; shelf 20 0; group 0; group 0; group 0; in * 4 = 0 0 0; book 0 10; book 2 10",
            "book 2 11; book 2 10",
            "in * 4 = 1 0 3; gone 2; in * 4 = 1 0 2; gone 1; gone 1; in * 4 = 1 0 0");
        run("12x shelf 10 0; group 0; 12x book 0 10; in 0 4 = 12");
        run("shelf 20 0; shelf 20 0; group 0; 2x book 0 5; in 0 4 = 1; 2x book 0 10; in 0 4 = 2; group 0",
            "book 1 5; in * 4 = 2 1");
    }

    @Says(at = "Promise 11", value = "NoSuchElementException: likewise.")
    private static void noSuchGroup() {
        run("in 0 0..4 = throws; group 5; in 1 0..4 = throws; in -1 0..4 = throws; in WILD 0 = throws");
        run("8x group 5; in 7 0 = 5; in 8 0 = throws; in WILD WILD = throws");
    }

    @Says(at = "Promise 11", value = "NoSuchElementException: likewise.")
    private static void noSuchIn() {
        run("group 5; in 0 5 = throws; in 0 -1 = throws; in 0 WILD = throws; in 0 0 = 5");
    }

    // ---- promise 12: of

    @Says(at = "Promise 12", value = {"Of a BOOK, what 0: GROUP, 1: WIDTH, 2: NEED, 3: SHELF",
        "5: how often it was HANDLED"})
    private static void ofABook() {
        run("shelf 30 0; shelf 30 0; group 3; group 5; book 1 20; book 0 5; book 1 10; of 0 0..3 = 0 5 3 0",
            "of 1 0..3 = 1 20 3 0",
            "of 2 0..3 = 1 10 2 1; of 0..2 5 = 0");
        run(RIGHT, "move; of 0..3 5 = 0 0 0 1; gone 0; of 0..2 5 = 0 0 1; plan 0 = 1; move = 0; of 0..2 5 = 1 0 1");
        Script.stays(BOTH, "of 0 0 = 0", "of 4 0 = throws", "of 0 7 = throws");
    }

    @Says(at = "Promise 12", value = "4: all WIDTHS ahead of it on that SHELF")
    private static void aheadOnItsShelf() {
        run("shelf 20 0; shelf 40 0; group 0; group 0; book 0 5; book 0 6; book 0 20; book 1 7; book 1 8",
            "of * 3 = 0 0 1 1 1; of * 4 = 0 5 0 20 27; gone 2; of * 4 = 0 5 0 7");
    }

    @Says(at = "Promise 12", value = "6: its SHELF by the PLAN (NONE without).")
    private static void shelfByThePlan() {
        run("shelf 20 0; group 0; book 0 5; of 0 6 = NONE; plan 0 = 0; of 0 6 = NONE");
        run(ONE, "of * 6 = 0 1; drop; of * 6 = NONE NONE");
        run(BOTH, "of * 6 = 0 0 2 2; 3x move; of * 6 = 0 0 2 2; move; of * 6 = NONE NONE NONE NONE");
    }

    @Says(at = "Promise 12", value = "NoSuchElementException: likewise.")
    private static void noSuchBook() {
        run("of 0 0..6 = throws; shelf 20 0; group 0; of 0 0..6 = throws; book 0 5; of 1 0..6 = throws",
            "of -1 0..6 = throws; of WILD 0 = throws; of WILD WILD = throws; gone 0; of 0 0 = throws");
        run("shelf 60 0; group 0; 60x book 0 1; of 59 1 = 1; of 60 1 = throws");
    }

    @Says(at = "Promise 12", value = "NoSuchElementException: likewise.")
    private static void noSuchOf() {
        run("shelf 20 0; group 0; book 0 5; of 0 7 = throws; of 0 -1 = throws; of 0 WILD = throws; of 0 0 = 0");
        run(ONE, "of 1 7 = throws; of 1 -1 = throws; of 1 6 = 1");
    }

    // ---- promise 13: lasts

    @Says(at = "Promise 13", value = "The least number of years that a SHELF with BOOKS LASTS")
    private static void leastYears() {
        run("shelf 30 0; shelf 20 0; shelf 10 0; group 3; group 2; book 0 21; lasts = 3; book 1 15",
            "on 0..1 5 = 3 2; lasts = 2",
            "grow 1 0; lasts = 3; grow 1 6; lasts = 0; turn 1 2; lasts = 0; gone 1; lasts = 3; grow 0 0",
            "lasts = 999");
        run("shelf 200 0; group 1; book 0 1; lasts = 199");
        Script.stays(ONE, "lasts = 0");
    }

    @Says(at = "Promise 13", value = "(999 without BOOKS).")
    private static void leastYearsWithoutBooks() {
        run("lasts = 999; shelf 10 0; group 99; lasts = 999; book 0 10; lasts = 0; gone 0; lasts = 999");
    }

    // ---- promise 14: cut

    @Says(at = "Promise 14", value = "How many BOOKS THE CUTS for Y have on a SHELF.")
    private static void cutsOfYears() {
        run(EIGHTS, "of * 2 = 1 1 0; cut 0 * = 2 1 0; cut 2 * = 2 1 0; cut 3 * = 1 2 0; cut 4 * = 1 2 0",
            "cut 5 * = 1 1 1; cut 12 * = 1 1 1");
        run("shelf 20 2; cut 0 0 = 0; cut 999 0 = 0; shelf 20 0; group 0; book 0 1; cut 999 * = 0 1");
        Script.stays(ONE, "cut 0 0 = 2", "cut 1 0 = 1", "cut 11 0 = NONE");
    }

    @Says(at = "Promise 14", value = "NONE: there is none such")
    private static void cutOfNoShelf() {
        run("cut 0 0 = NONE; shelf 20 0; cut 0 1 = NONE; cut 0 -1 = NONE; cut 0 WILD = NONE; cut 0 0 = 0");
        run("12x shelf 20 0; cut 0 11 = 0; cut 0 12 = NONE");
    }

    @Says(at = "Promise 14", value = "no such Y")
    private static void cutOfNoYear() {
        run("shelf 20 0; cut -1 0 = NONE; cut 1000 0 = NONE; cut WILD 0 = NONE; cut WILD WILD = NONE",
            "cut 999 0 = 0");
    }

    @Says(at = "Promise 14", value = "no CUTS.")
    private static void noCuts() {
        run(EIGHTS, "cut 13 0..2 = NONE; cut 999 0 = NONE; turn 1 2; cut 0 * = 2 0 1; turn 2 2",
            "cut 0 0..2 = NONE; turn 0 2; cut 0 0 = NONE");
    }

    // ---- promise 15: price

    @Says(at = "Promise 15", value = "PRICE of THE CUTS for Y, what 0, 1, 2: its numbers.")
    private static void prices() {
        run(EIGHTS, "price 2 * = 0 0 0; price 3 * = 0 8 1; price 5 * = 1 16 2; price 12 * = 1 16 2");
        run("price 0 * = 0 0 0; shelf 20 2; price 999 * = 0 0 0");
        Script.stays(ONE, "price 0 0 = 0", "price 1 1 = 10", "price 11 0 = NONE");
    }

    @Says(at = "Promise 15", value = "NONE: no such Y")
    private static void priceOfNoYear() {
        run("shelf 20 0; price -1 0..2 = NONE; price 1000 0..2 = NONE; price WILD 0..2 = NONE; price 999 0..2 = 0");
    }

    @Says(at = "Promise 15", value = "no CUTS")
    private static void priceOfNoCuts() {
        run(EIGHTS, "price 13 0..2 = NONE; price 999 0..2 = NONE; turn 0..2 2; price 0 0..2 = NONE");
    }

    @Says(at = "Promise 15", value = "another what.")
    private static void noSuchPrice() {
        run(EIGHTS, "price 0 3 = NONE; price 0 -1 = NONE; price 0 WILD = NONE; price 5 3 = NONE");
    }

    // ---- promise 16: best

    @Says(at = "Promise 16", value = "The greatest Y for which there are CUTS")
    private static void bestYears() {
        run(EIGHTS, "best false = 12; cut 12 0 = 1; cut 13 0 = NONE");
        run("shelf 200 0; group 1; book 0 1; best false = 199; grow 0 0; best false = 999; best true = 999");
        // For 0, but not for 1; then just for 1.
        run("shelf 10 0; group 1; book 0 10; best false = 0; best true = 0; gone 0; book 0 9; best false = 1",
            "best true = 1");
        Script.stays(ONE, "best false = 10", "best true = 10");
    }

    /** A book of 1 lasts as long as it has room: every greatest Y that growth can leave. */
    @Says(at = "Promise 16", value = "The greatest Y for which there are CUTS")
    private static void everyBestYear() {
        for (int length = 10; length <= 200; length++) {
            int years = length - 1;
            run("shelf " + length + " 0; group 1; book 0 1; best true = " + years + "; best false = " + years);
        }
    }

    @Says(at = "Promise 16", value = "(open) so that no SPARE SHELF has BOOKS.")
    private static void bestWithoutSpares() {
        run(EIGHTS, "best true = 4; best false = 12; turn 2 0; best true = 12; turn 0 1; best true = 4");
        // The books stand on the spare shelf now; they need not stay there.
        run("shelf 20 1; group 1; book 0 10; shelf 15 0; best true = 5; best false = 10");
    }

    @Says(at = "Promise 16", value = "NONE: there are none for 0.")
    private static void noYears() {
        run(EIGHTS, "turn 1 1; best true = NONE; best false = 12; turn 1 2; turn 2 2; best false = NONE",
            "best true = NONE");
        run("shelf 20 0; group 0; book 0 20; turn 0 1; best true = NONE; best false = 999; turn 0 2",
            "best false = NONE");
        run("shelf 20 0; shelf 19 0; group 9; book 0 20; best true = 0; turn 0 2; best true = NONE",
            "best false = NONE");
    }

    // ---- promise 17: tight

    @Says(at = "Promise 17", value = {"With CUTS for 0 of which first SHELF 0 has most BOOKS, then SHELF 1, and so on",
        "the last SHELF with BOOKS."})
    private static void tightShelves() {
        run("shelf 20 0; shelf 20 0; shelf 20 0; group 9; book 0 10; tight = 0; book 0 10; tight = 0; book 0 1",
            "tight = 1; book 0 19; tight = 1",
            "book 0 1; tight = 2");
        // Shelf 1 is too short for the next book; what is behind the last one is free.
        run("shelf 20 0; shelf 10 0; shelf 20 0; shelf 20 0; group 0; book 0 15; book 0 15; tight = 2");
        run("12x shelf 10 0; group 0; 12x book 0 10; tight = 11");
        Script.stays(ONE, "tight = 0");
    }

    @Says(at = "Promise 17", value = "(PRICE being no matter")
    private static void tightWhereverTheyStand() {
        run("shelf 20 2; shelf 20 2; shelf 20 0; group 0; book 0 10; of 0 3 = 2; tight = 2; turn 1 0; tight = 1",
            "turn 0 0; tight = 0; of 0 3 = 2");
    }

    @Says(at = "Promise 17", value = "OPEN ones alone)")
    private static void tightOnOpenOnes() {
        run("shelf 20 0; shelf 20 1; shelf 20 2; shelf 20 0; group 0; book 0 10; book 0 10; tight = 0; book 0 10",
            "tight = 3");
        run("shelf 20 1; shelf 20 0; group 0; book 0 10; tight = 1");
    }

    @Says(at = "Promise 17", value = "NONE: there are no such CUTS")
    private static void notTight() {
        run("shelf 20 0; shelf 20 1; group 0; book 0 20; tight = 0; book 0 1; tight = NONE; turn 1 0; tight = 1",
            "turn 0..1 2; tight = NONE");
    }

    @Says(at = "Promise 17", value = "no BOOKS.")
    private static void tightWithoutBooks() {
        run("tight = NONE; shelf 20 0; group 0; tight = NONE; book 0 1; tight = 0; gone 0; tight = NONE");
    }

    // ---- promise 18: more

    @Says(at = "Promise 18", value = "How many BOOKS of a WIDTH more of a GROUP could come one behind the other")
    private static void moreBooks() {
        run("shelf 20 0; shelf 20 1; shelf 20 2; group 3; more 0 10 = 4; more 0 7 = 4; more 0 6 = 6",
            "more 0 20 = 2; more 0 21 = 0; more 0 40 = 0",
            "turn 0 2; more 0 10 = 2; turn 1 2; more 0 1 = 0");
        run("group 0; more 0 1 = 0");
        // The growth is no matter.
        run("shelf 20 0; group 9; book 0 10; more 0 11 = 0; more 0 10 = 1; more 0 5 = 2");
        Script.stays(ONE, "more 0 10 = 2", "more 0 40 = 0");
    }

    @Says(at = "Promise 18", value = "as book() would do it")
    private static void moreAsBookDoes() {
        // Others make room at once: 10 and 10 of the later group go to shelf 1.
        String before = "shelf 20 0; shelf 20 0; group 0; group 0; book 1 10; book 1 10; of * 3 = 0 0";
        run(before, "more 0 10 = 2; book 0 10 = 0; book 0 10 = 1; book 0 10 = NONE; of * 3 = 0 0 1 1");
        run("shelf 20 0; shelf 20 0; group 0; group 0; book 1 11; more 0 10 = 2; more 1 10 = 2; more 0 9 = 3",
            "book 0 9; book 0 9; more 0 9 = 1; more 0 10 = 0");
        // A book on a closed shelf that has no place to go keeps all others away.
        run("shelf 20 0; shelf 20 0; group 0; group 0; book 0 15; book 1 10; turn 0 2; more 1 1 = 0; turn 0 1",
            "more 1 1 = 10; more 0 1 = 15");
    }

    @Says(at = "Promise 18", value = "(60 BOOKS at most).")
    private static void moreUpToSixty() {
        run("shelf 200 0; group 0; more 0 1 = 60; book 0 1; more 0 1 = 59; 58x book 0 1; more 0 1 = 1; book 0 1",
            "more 0 1 = 0; more 0 40 = 0",
            "gone 0; more 0 40 = 1");
        run("12x shelf 200 0; group 0; more 0 40 = 60");
        run("12x shelf 200 0; shelf 200 0; group 0; turn 11 2; more 0 40 = 55; more 0 36 = 55; more 0 33 = 60");
    }

    @Says(at = "Promise 18", value = "NONE: there is no such GROUP, WIDTH.")
    private static void noSuchMore() {
        run("shelf 200 0; more 0 1 = NONE; group 0; more 1 1 = NONE; more -1 1 = NONE; more WILD 1 = NONE",
            "more 0 0 = NONE; more 0 41 = NONE",
            "more 0 WILD = NONE; 60x book 0 1; more 1 1 = NONE; more 0 41 = NONE; more 0 40 = 0");
    }

    // ---- promise 19: plan

    @Says(at = "Promise 19", value = "A PLAN for Y comes (instead of one that is there): how many MOVES.")
    private static void planComes() {
        run(RIGHT, "move = 3; plan 999 = 3; count 6..8 = 3 0 999; plan 0 = 3; count 6..8 = 3 0 0",
            "of * 3 = 0 0 1 2");
        run("shelf 60 0; group 0; 60x book 0 1; shelf 60 0; turn 0 2; plan 999 = 60; count 6 = 60",
            "planned 59 0 = 0; planned 60 0 = NONE");
        run(ONE, "plan 10 = 1; count 8 = 10");
    }

    @Says(at = "Promise 19", value = "0: none is to be made (there is no PLAN then).")
    private static void planOfNothing() {
        run(ONE, "plan 0 = 0; count 6..8 = 0 0 NONE; left 0 = NONE; drop = NONE; move = NONE; of * 6 = NONE NONE",
            "of * 3 = 0 0");
        run("plan 0 = 0; count 8 = NONE; shelf 20 0; plan 999 = 0; group 0; book 0 5; plan 999 = 0",
            "count 8 = NONE");
    }

    @Says(at = "Promise 19", value = {"NONE: no such Y", "(all stays)."})
    private static void planOfNoYear() {
        run("shelf 20 0; plan -1 = NONE; plan 1000 = NONE; plan WILD = NONE; plan 999 = 0");
        Script.stays(ONE, "plan -1 = NONE", "plan 1000 = NONE", "plan WILD = NONE");
        Script.stays(BOTH + "; move", "plan -1 = NONE", "plan 1000 = NONE");
    }

    @Says(at = "Promise 19", value = {"no CUTS", "(all stays)."})
    private static void planOfNoCuts() {
        run("shelf 20 0; group 1; book 0 10; plan 10 = 0; plan 11 = NONE; turn 0 2; plan 0 = NONE");
        Script.stays(ONE, "plan 11 = NONE", "plan 999 = NONE");
        Script.stays("shelf 20 0; shelf 20 0; group 4; 3x book 0 9; plan 1 = 1", "plan 2 = NONE");
    }

    // ---- promise 20: drop

    @Says(at = "Promise 20", value = "The PLAN is given up: how many MOVES were not done.")
    private static void dropped() {
        run(RIGHT, "drop = 4; count 6..8 = 0 0 NONE; of * 3 = 0 0 1 1; count 10 = 0");
        run(RIGHT, "3x move; drop = 1; count 6..8 = 0 0 NONE; of * 3 = 0 1 2 2; of * 6 = NONE NONE NONE NONE",
            "count 10 = 3; count 9 = 7");
    }

    @Says(at = "Promise 20", value = "NONE: there is none.")
    private static void nothingToDrop() {
        run("drop = NONE");
        run(RIGHT, "drop = 4; drop = NONE; plan 0 = 4; 4x move; drop = NONE");
        Script.stays("shelf 20 0; group 0; book 0 5", "drop = NONE");
    }

    // ---- promise 21: move

    @Says(at = "Promise 21", value = "The next MOVE is made: its BOOK.")
    private static void nextMove() {
        run(BOTH, "move = 3; log 0 * = 1 3 9 1 2; count 7 = 1; of 3 5 = 1; move = 2; move = 0",
            "log 0 * = 2 0 10 1 0; move = 1; of * 3 = 0 0 2 2",
            "count 10 = 4; on * 2 = 20 0 20");
    }

    @Says(at = "Promise 21", value = "NONE: there is none.")
    private static void noNextMove() {
        run("move = NONE; count 10 = 0");
        run(ONE, "move = 1; move = NONE; count 10 = 1; plan 0 = 0; move = NONE");
        Script.stays("shelf 20 0; group 0; book 0 5", "move = NONE");
    }

    // ---- promise 22: day

    @Says(at = "Promise 22", value = "A DAY's MOVES are made: how many.")
    private static void dayOfMoves() {
        run(RIGHT, "day = 3; count 7 = 3; of * 3 = 0 1 2 2; day = 1; count 8 = NONE; of * 3 = 1 1 2 2",
            "count 10 = 4; count 9 = 8");
        run(RIGHT, "limit 60; move; day = 2; limit 40; day = 1; day = NONE");
        run(RIGHT, "limit 59; day = 1; limit 89; day = 2; day = 1");
        run(RIGHT, "limit 90; move; day = 3; day = NONE");
        run("shelf 60 0; group 0; 60x book 0 1; shelf 60 0; turn 0 2; plan 0; limit 40; day = 40; day = 20",
            "count 10 = 60");
    }

    @Says(at = "Promise 22", value = "NONE: there is none.")
    private static void noDay() {
        run("day = NONE; count 10 = 0");
        run(ONE, "day = 1; day = NONE; count 10 = 1");
        Script.stays("shelf 20 0; group 0; book 0 5", "day = NONE");
    }

    // ---- promise 23: planned

    @Says(at = "Promise 23", value = {"Of the k-th MOVE of the PLAN (from 0 on, done ones, too)",
        "what 0: its BOOK, 1: SHELF from, 2: to", "3: 1 RIGHT, 2 LEFT"})
    private static void plannedMoves() {
        run(BOTH, "planned 0 0..3 = 3 1 2 1; planned 1 0..3 = 2 1 2 1; planned 2 0..3 = 0 1 0 2",
            "planned 3 0..3 = 1 1 0 2",
            "3x move; planned 0 0..3 = 3 1 2 1; planned 2 0..3 = 0 1 0 2; planned 3 0..3 = 1 1 0 2");
        Script.stays(BOTH, "planned 0 0 = 3", "planned 9 9 = NONE");
    }

    @Says(at = "Promise 23", value = "4: the DAY on which it comes, from 0 on, were LIMIT so from the first one on")
    private static void plannedDays() {
        run(RIGHT, "planned * 4 = 0 0 0 1; limit 60; planned * 4 = 0 0 1 1; move; planned * 4 = 0 0 1 1",
            "left 2 = 2; limit 40; planned * 4 = 0 1 2 3",
            "day = 1; planned * 4 = 0 1 2 3; limit 120; planned * 4 = 0 0 0 0");
    }

    @Says(at = "Promise 23", value = "5: its TRIP, from 0 on")
    private static void plannedTrips() {
        run(RIGHT, "planned * 5 = 0 0 1 1; 3x move; planned * 5 = 0 0 1 1");
        run("shelf 10 0; shelf 10 0; shelf 10 0; group 0; 3x book 0 10; shelf 10 0; turn 0 2; plan 0 = 3",
            "planned * 5 = 0 1 2");
    }

    @Says(at = "Promise 23", value = "6: how many MOVES ahead of it take from the SHELF to which it goes.")
    private static void plannedTakings() {
        run(RIGHT, "planned * 6 = 0 0 2 2; 3x move; planned * 6 = 0 0 2 2");
        run(BOTH, "planned * 6 = 0 0 0 0");
        run("shelf 10 0; shelf 10 0; shelf 10 0; group 0; 3x book 0 10; shelf 10 0; turn 0 2; plan 0 = 3",
            "planned * 6 = 0 1 1");
    }

    @Says(at = "Promise 23", value = "NONE: not so many")
    private static void notSoManyPlanned() {
        run("planned 0 0..6 = NONE; planned WILD 0 = NONE");
        run(BOTH, "planned 4 0..6 = NONE; planned -1 0..6 = NONE; planned WILD 0..6 = NONE; 4x move",
            "planned 0 0..6 = NONE");
    }

    @Says(at = "Promise 23", value = "another what.")
    private static void noSuchPlanned() {
        run(BOTH, "planned 0..3 7 = NONE; planned 0..3 -1 = NONE; planned 0 WILD = NONE; planned WILD WILD = NONE");
    }

    // ---- promise 24: left

    @Says(at = "Promise 24", value = {"What is left of the PLAN, what 0: MOVES, 1: their WIDTHS, 2: DAYS, 3: TRIPS",
        "4: those to the RIGHT."})
    private static void leftOfThePlan() {
        run(RIGHT, "limit 60; left * = 4 120 2 2 4; move; left * = 3 90 2 2 3; move; left * = 2 60 1 1 2; move",
            "left * = 1 30 1 1 1");
        run(BOTH, "left * = 4 40 1 2 2; move; left * = 3 31 1 2 1; move; left * = 2 20 1 1 0; move",
            "left * = 1 10 1 1 0");
        Script.stays(BOTH, "left 2 = 1", "left 5 = NONE");
        // All sixty; then a plan that is shorter than the one ahead of it.
        run("shelf 60 0; group 0; 60x book 0 1; shelf 60 0; turn 0 2; plan 0; left * = 60 60 1 1 60; 50x move",
            "plan 0 = 10; left * = 10 10 1 1 10");
    }

    @Says(at = "Promise 24", value = "NONE: there is no PLAN")
    private static void nothingLeft() {
        run("left 0..4 = NONE; left WILD = NONE");
        run(ONE, "left 0 = 1; move; left 0..4 = NONE");
        run(ONE, "drop; left 0..4 = NONE");
    }

    @Says(at = "Promise 24", value = "another what.")
    private static void noSuchLeft() {
        run(BOTH, "left 5 = NONE; left -1 = NONE; left WILD = NONE");
    }

    // ---- promise 25: enough

    @Says(at = "Promise 25", value = {"The least LIMIT (40 to 400)",
        "by which what is left of the PLAN would take so many DAYS at most."})
    private static void enoughForDays() {
        run(RIGHT, "enough 1 = 120; enough 2 = 60; enough 3 = 60; enough 4 = 40; enough 5 = 40; enough 1000 = 40",
            "enough MAX = 40",
            "move; enough 1 = 90; enough 2 = 60; enough 3 = 40; 2x move; enough 1 = 40; count 5 = 100");
        run(ONE, "enough 1 = 40");
        // The LIMIT that is set is no matter.
        run(RIGHT, "limit 400; enough 2 = 60; limit 40; enough 2 = 60");
        Script.stays(BOTH, "enough 1 = 40", "enough 0 = NONE");
    }

    /** Moves of every sum: a day is enough for them by that very LIMIT, by none that is less. */
    @Says(at = "Promise 25", value = "The least LIMIT (40 to 400)")
    private static void enoughForOneDay() {
        for (int sum = 1; sum <= 400; sum++) {
            String books = sum / 40 + "x book 0 40" + (sum % 40 > 0 ? "; book 0 " + sum % 40 : "");
            run("shelf 200 0; shelf 200 0; group 0", books, "shelf 200 0; shelf 200 0; turn 0..1 2; plan 0",
                "left 1 = " + sum + "; enough 1 = " + Math.max(sum, 40));
        }
    }

    @Says(at = "Promise 25", value = "NONE: there is no PLAN")
    private static void enoughForNothing() {
        run("enough 1 = NONE; enough 0 = NONE; enough MAX = NONE; enough MIN = NONE");
        run(ONE, "move; enough 1 = NONE; enough MAX = NONE");
    }

    @Says(at = "Promise 25", value = "by none.")
    private static void notEnough() {
        run(RIGHT, "enough 0 = NONE; enough -1 = NONE; enough MIN = NONE");
        // 401 in all; behind the first move, of 1, they are just 400.
        run("shelf 200 0; shelf 200 0; shelf 10 0; group 0; 10x book 0 40; book 0 1 = 10; shelf 200 0",
            "shelf 200 0; shelf 10 0",
            "turn 0..2 2; plan 0 = 11; left 1 = 401; enough 1 = NONE; enough 2 = 201; move = 10; left 1 = 400",
            "enough 1 = 400; enough 2 = 200");
    }

    // ---- promise 26: log

    @Says(at = "Promise 26", value = {"Of an entry of THE LOG (0: the latest)",
        "what 0: kind, 1: BOOK, 2: WIDTH, 3: SHELF from (NONE), 4: to (NONE)."})
    private static void logEntries() {
        run(BOTH, "3x move; gone 2 = 2; log 0 * = 3 2 11 2 NONE; log 1 * = 2 0 10 1 0; log 2 * = 1 2 11 1 2",
            "log 3 * = 1 3 9 1 2",
            "log 4 * = 0 3 9 NONE 1; log 7 * = 0 0 10 NONE 1");
        Script.stays(BOTH, "log 0 0 = 0", "log 9 9 = NONE");
    }

    @Says(at = "Promise 26", value = "NONE: not so many")
    private static void notSoManyEntries() {
        run("log 0 0..4 = NONE; log WILD 0 = NONE; shelf 200 0; group 0; book 0 1; log 0 0 = 0",
            "log 1 0..4 = NONE; log -1 0..4 = NONE; log WILD 0..4 = NONE");
        run("shelf 200 0; group 0; 39x book 0 1; log 38 0 = 0; log 39 0..4 = NONE; book 0 1; log 39 0 = 0",
            "log 40 0..4 = NONE; book 0 1; log 40 0..4 = NONE");
        // Once round the ring and more.
        run("shelf 200 0; group 0; 60x book 0 1; 25x gone 0; count 9 = 40; log 24 * = 3 0 1 0 NONE",
            "log 25 * = 0 59 1 NONE 0; log 39 * = 0 45 1 NONE 0; log 40 0 = NONE");
    }

    @Says(at = "Promise 26", value = "another what.")
    private static void noSuchEntry() {
        run(BOTH, "log 0 5 = NONE; log 0 -1 = NONE; log 0 WILD = NONE; log WILD WILD = NONE; log 3 5 = NONE");
    }

    public static void main(String[] args) throws java.io.IOException {
        String[] parts = new String[26];
        for (int n = 0; n < parts.length; n++) {
            parts[n] = "Promise " + (n + 1);
        }
        Sentences.run(PromiseEdgesTest.class, parts);
    }
}
