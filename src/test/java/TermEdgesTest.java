/** The two terms of the document, sentence by sentence: each that names an edge has a test of its own. */
public final class TermEdgesTest {
    /** Four books of 30: two on shelf 0, two on shelf 1; then 0 is closed, 2 is new: all go right. */
    private static final String RIGHT =
        "shelf 80 0; shelf 80 0; group 0; 4x book 0 30; shelf 80 0; turn 0 2; plan 0 = 4";
    /** 10, 10, 11, 9 on shelf 1, which is spare then: two go right, two go left. */
    private static final String BOTH =
        "shelf 20 2; shelf 40 0; shelf 20 0; group 0; book 0 10; book 0 10; book 0 11; book 0 9;"
        + "turn 0 0; turn 1 1; plan 0 = 4";
    private static final String NO_PLAN =
        "count 6 = 0; count 7 = 0; count 8 = NONE; left 0 = NONE; planned 0 0 = NONE; of 0 6 = NONE;"
        + "drop = NONE; move = NONE; day = NONE; enough 1 = NONE";

    private static void run(String... texts) {
        new Script(texts);
    }

    // ---- term 1: shelves, groups, books

    @Says(at = "Term 1", value = "SHELVES, at most 12, numbered from 0 on (from the left to the right)")
    private static void twelveShelves() {
        run("shelf 10 0 = 0; shelf 11 0 = 1; shelf 12 0 = 2; shelf 13 0 = 3; shelf 14 0 = 4; shelf 15 0 = 5",
            "shelf 16 0 = 6; shelf 17 0 = 7; shelf 18 0 = 8; shelf 19 0 = 9; shelf 20 0 = 10; shelf 21 0 = 11",
            "shelf 22 0 = NONE; count 0 = 12; on * 0 = 10 11 12 13 14 15 16 17 18 19 20 21; on 12 0 = throws");
        run("shelf 10 0; shelf 30 0; shelf 20 0; group 0; book 0 10; book 0 30; book 0 20; of * 3 = 0 1 2");
    }

    @Says(at = "Term 1", value = "each with a LENGTH 10 to 200")
    private static void lengths() {
        run("shelf 9 0 = NONE; shelf 201 0 = NONE; shelf 0 0 = NONE; shelf WILD 0 = NONE; count 0 = 0");
        run("shelf 10 0 = 0; shelf 200 0 = 1; on * 0 = 10 200");
    }

    @Says(at = "Term 1", value = "and a KIND: 0 OPEN, 1 SPARE, 2 CLOSED")
    private static void kinds() {
        run("shelf 50 -1 = NONE; shelf 50 3 = NONE; shelf 50 WILD = NONE; count 0 = 0");
        run("shelf 20 2 = 0; shelf 20 1 = 1; shelf 20 0 = 2; on * 1 = 2 1 0; count 4 = 20",
            "group 0; book 0 15; book 0 15; of * 3 = 1 2; price 0 0 = 1");
    }

    @Says(at = "Term 1", value = "GROUPS, at most 8, numbered from 0 on")
    private static void eightGroups() {
        run("group 1 = 0; group 2 = 1; group 3 = 2; group 4 = 3; group 5 = 4; group 6 = 5; group 7 = 6",
            "group 8 = 7; group 9 = NONE; count 1 = 8; in * 0 = 1 2 3 4 5 6 7 8; in 8 0 = throws");
    }

    @Says(at = "Term 1", value = "each with a GROWTH 0 to 99 (a year)")
    private static void growths() {
        run("group -1 = NONE; group 100 = NONE; group WILD = NONE; count 1 = 0");
        run("group 0 = 0; group 99 = 1; in * 0 = 0 99; grow 0 99 = true; grow 1 0 = true; in * 0 = 99 0");
    }

    @Says(at = "Term 1", value = "BOOKS, at most 60")
    private static void sixtyBooks() {
        run("shelf 200 0; group 0; 59x book 0 1; book 0 1 = 59; book 0 1 = NONE; count 2 = 60",
            "of 59 1 = 1; of 60 1 = throws; gone 59 = 0; book 0 2 = 59; count 2 = 60");
    }

    @Says(at = "Term 1", value = "each of a GROUP, with a WIDTH 1 to 40")
    private static void widths() {
        run("shelf 200 0; group 0; book 0 0 = NONE; book 0 41 = NONE; book 0 WILD = NONE; book WILD 1 = NONE",
            "book 1 1 = NONE; count 2 = 0; book 0 1 = 0; book 0 40 = 1; of * 1 = 1 40; of * 0 = 0 0");
    }

    @Says(at = "Term 1", value = "They are in order: by GROUPS, those of one GROUP as they came")
    private static void order() {
        run("shelf 200 0; group 0; group 0; group 0",
            "book 1 5; book 0 6; book 2 7; book 1 8; book 0 9; book 2 4",
            "of * 1 = 6 9 5 8 7 4; of * 0 = 0 0 1 1 2 2");
    }

    @Says(at = "Term 1", value = "they are numbered from 0 on by that order (a new one changes numbers behind it)")
    private static void numbers() {
        run("shelf 200 0; group 0; group 0; group 0; book 1 5 = 0; book 0 6 = 0; book 2 7 = 2; book 1 8 = 2",
            "of * 1 = 6 5 8 7; book 0 9 = 1; of * 1 = 6 9 5 8 7; gone 0 = 0; of * 1 = 9 5 8 7; of 4 1 = throws");
    }

    @Says(at = "Term 1", value = "Each stands on a SHELF; in order, none on a lesser one than a BOOK ahead of it")
    private static void shelvesInOrder() {
        run(BOTH, "of * 3 = 1 1 1 1; move = 3; of * 3 = 1 1 1 2; move = 2; of * 3 = 1 1 2 2",
            "move = 0; of * 3 = 0 1 2 2; move = 1; of * 3 = 0 0 2 2");
        // 9 would have room beside 11, but not in order.
        run("shelf 20 0; shelf 20 0; shelf 20 0; group 0; book 0 11; book 0 11; book 0 9; book 0 9",
            "of * 3 = 0 1 1 2");
    }

    @Says(at = "Term 1", value = "LOAD of a SHELF: all WIDTHS on it; it is LENGTH at most")
    private static void loads() {
        run("shelf 20 0; on 0 2 = 0; group 0; group 0; book 0 5; book 1 14; on 0 2 = 19; book 0 2 = NONE",
            "book 0 1 = 1; on 0 2 = 20; book 0 1 = NONE; book 1 1 = NONE; on 0 2 = 20");
        // Full shelves are shifted: none is ever too full.
        run("shelf 20 0; shelf 20 0; group 0; 4x book 0 10; shelf 20 0; turn 0 2; plan 0 = 4; on * 2 = 20 20 0",
            "move; on * 2 = 20 10 10; move; on * 2 = 20 0 20; move; on * 2 = 10 10 20; move; on * 2 = 0 20 20");
    }

    @Says(at = "Term 1", value = "ROOM is LENGTH less LOAD")
    private static void rooms() {
        run("shelf 40 0; on 0 3 = 40; group 0; book 0 39; on 0 3 = 1; book 0 1; on 0 3 = 0; gone 0; on 0 3 = 39");
    }

    // ---- term 1: needs

    @Says(at = "Term 1", value = {"NEED of a BOOK: its share of its GROUP's GROWTH:",
        "GROWTH times WIDTH by all WIDTHS of the GROUP, rounded down"})
    private static void needs() {
        run("shelf 200 0; group 7; group 99; group 0; book 0 1; book 0 2; book 0 4; book 1 40; book 2 3",
            "of * 2 = 1 2 4 99 0");
        // 8 by 7: 1.14, 2.29, 4.57: only what is left over goes beyond that.
        run("shelf 200 0; group 8; book 0 1; book 0 2; book 0 4; of * 2 = 1 2 5; grow 0 0; of * 2 = 0 0 0");
        run("shelf 200 0; group 9; book 0 5; of * 2 = 9; book 0 10; of * 2 = 3 6; gone 0; of * 2 = 9");
        run("shelf 200 0; group 4; group 3; book 1 10; book 1 5; of * 2 = 2 1; book 0 5; of * 2 = 4 2 1; gone 0",
            "of * 2 = 2 1");
    }

    @Says(at = "Term 1", value = "what is left then, one each, to those whose part lost most by rounding")
    private static void needsLeft() {
        // 5 by 7: 0.71, 1.43, 2.86; two are left.
        run("shelf 200 0; group 5; book 0 1; book 0 2; book 0 4; of * 2 = 1 1 3");
        // 9 by 10: 0.9, 1.8, 6.3; two are left, one each for the first two.
        run("shelf 200 0; group 9; book 0 1; book 0 2; book 0 7; of * 2 = 1 2 6");
        // 7 by 10: 0.7, 6.3; by what was lost, not by what was had.
        run("shelf 200 0; group 7; book 0 9; book 0 1; of * 2 = 6 1");
    }

    @Says(at = "Term 1", value = "of like ones the first ones")
    private static void needsAlike() {
        run("shelf 200 0; group 10; book 0 3; book 0 3; book 0 3; of * 2 = 4 3 3; grow 0 11; of * 2 = 4 4 3");
        run("shelf 200 0; group 1; book 0 5; book 0 5; of * 2 = 1 0; gone 0; of * 2 = 1");
        run("shelf 200 0; group 59; 60x book 0 1; of 0..58 2 = 1; of 59 2 = 0; grow 0 1; of 0 2 = 1",
            "of 1..59 2 = 0");
        run("shelf 200 0; group 99; book 0 40; book 0 40; of * 2 = 50 49");
        // The shares of one group are no matter for another one.
        run("shelf 200 0; group 1; group 1; book 0 1; book 0 9; book 1 1; book 1 1; of * 2 = 0 1 1 0");
    }

    @Says(at = "Term 1", value = "RATE of a SHELF: all NEEDS on it")
    private static void rates() {
        run("shelf 20 0; shelf 20 0; shelf 20 0; group 3; group 4; on * 4 = 0 0 0",
            "book 0 10; book 1 10; book 1 10; of * 2 = 3 2 2; on * 4 = 5 2 0; grow 1 0; on * 4 = 3 0 0");
    }

    @Says(at = "Term 1", value = "It LASTS ROOM by RATE, rounded down, years")
    private static void yearsDown() {
        run("shelf 30 0; group 3; book 0 21; on 0 5 = 3; book 0 1; on 0 5 = 2; book 0 5; on 0 5 = 1",
            "book 0 1; on 0 5 = 0; book 0 2; on 0 3 = 0; on 0 5 = 0");
        run("shelf 200 0; group 1; book 0 1; on 0 5 = 199");
    }

    @Says(at = "Term 1", value = "999 at most (so without RATE)")
    private static void yearsWithoutRate() {
        run("shelf 10 0; shelf 200 2; group 0; on * 5 = 999 999; book 0 10; on 0 3 = 0; on * 5 = 999 999");
        // The second book has no share, so its shelf has no rate.
        run("shelf 10 0; shelf 10 0; group 1; book 0 10; book 0 10; on * 5 = 0 999");
    }

    // ---- term 2: cuts

    @Says(at = "Term 2", value = "CUTS for Y years (0 to 999)")
    private static void years() {
        run("shelf 20 0; group 0; book 0 20; cut 0 0 = 1; cut 999 0 = 1; cut 1000 0 = NONE; cut -1 0 = NONE",
            "price 999 0 = 0; price 1000 0 = NONE; price -1 0 = NONE; plan 999 = 0; plan 1000 = NONE",
            "plan -1 = NONE");
    }

    @Says(at = "Term 2", value = "how many BOOKS stand on each SHELF, in order")
    private static void cutsInOrder() {
        run("shelf 20 0; shelf 15 0; group 0; book 0 15; book 0 5; book 0 15; cut 0 * = 2 1; book 0 1 = NONE");
        // 40 in all, but 11, 11 and 9, 9 need a third shelf.
        run("shelf 20 0; shelf 20 0; group 0; book 0 11; book 0 11; book 0 9; cut 0 * = 1 2; book 0 9 = NONE");
        run("shelf 20 0; shelf 20 0; cut 0 * = 0 0; cut 999 * = 0 0");
    }

    @Says(at = "Term 2", value = "none on CLOSED ones")
    private static void closedShelves() {
        run("shelf 50 2; shelf 20 0; group 0; book 0 10; cut 0 * = 0 1; of 0 3 = 1; turn 1 2; cut 0 * = NONE NONE",
            "turn 0 0; cut 0 * = 1 0; turn 0 1; cut 0 * = 1 0");
        run("shelf 20 0; shelf 20 0; shelf 20 0; group 0; book 0 20; book 0 20; turn 1 2; cut 0 * = 1 0 1");
    }

    @Says(at = "Term 2", value = "so that on each one all WIDTHS and Y times all NEEDS are LENGTH at most")
    private static void justLongEnough() {
        run("shelf 20 0; group 2; book 0 10; cut 5 0 = 1; cut 6 0 = NONE; grow 0 1; cut 10 0 = 1; cut 11 0 = NONE");
        run("shelf 20 0; shelf 21 0; group 6; book 0 10; book 0 10; of * 2 = 3 3; cut 0 * = 2 0; cut 1 * = 1 1",
            "cut 3 * = 1 1; cut 4 0 = NONE");
        // On each shelf of its own: 19 are free on shelf 0, but shelf 1 is full.
        run("shelf 20 0; shelf 20 0; group 0; group 1; book 0 1; book 1 20; cut 0 * = 1 1; cut 1 0 = NONE");
    }

    @Says(at = "Term 2", value = "PRICE of CUTS, one behind the other: SPARE SHELVES that have BOOKS")
    private static void spareShelves() {
        run("shelf 10 1; shelf 10 1; shelf 10 1; group 0; price 0 0 = 0; book 0 10; price 0 0 = 1; of 0 3 = 0",
            "book 0 5; price 0 0 = 2; book 0 5; price 0 0 = 2; turn 1 0; price 0 0 = 1; turn 0 0; price 0 0 = 0");
        // Many books on it or one: it counts once.
        run("shelf 10 1; group 0; 10x book 0 1; price 0 * = 1 0 0");
    }

    @Says(at = "Term 2", value = {"all WIDTHS of BOOKS that stand on another SHELF then", "how many such BOOKS"})
    private static void movedWidths() {
        run("shelf 80 0; shelf 80 0; group 0; 4x book 0 30; price 0 * = 0 0 0; shelf 80 0; turn 0 2",
            "price 0 * = 0 120 4; plan 0; move; price 0 * = 0 90 3; move; price 0 * = 0 60 2");
        run("shelf 20 0; shelf 20 0; group 2; book 0 7; book 0 8; price 2 * = 0 0 0; price 3 * = 0 8 1");
        // Eleven full shelves, all shifted by one: the greatest widths that can move.
        run("11x shelf 200 0; group 0; 55x book 0 40; price 0 * = 0 0 0; shelf 200 0; turn 0 2",
            "price 0 * = 0 2200 55");
        run("shelf 60 0; group 0; 60x book 0 1; shelf 60 1; turn 0 2; price 0 * = 1 60 60; cut 0 * = 0 60");
    }

    @Says(at = "Term 2", value = {"THE CUTS for Y: those of the least PRICE (its first number"})
    private static void fewestSpareShelves() {
        // Shelf 1 could stay as it is, were it not spare.
        run("shelf 20 0; shelf 20 0; shelf 20 0; group 0; 4x book 0 10; cut 0 * = 2 2 0; turn 1 1",
            "cut 0 * = 2 0 2; price 0 * = 0 20 2");
        // One of three spare shelves must do, though two books move for it.
        run("shelf 10 0; shelf 10 0; shelf 10 0; shelf 20 0; group 0; 3x book 0 10; turn 0..2 1",
            "cut 0 * = 1 0 0 2; price 0 * = 1 20 2");
    }

    @Says(at = "Term 2", value = "of like ones its second")
    private static void leastWidths() {
        // 3 and 3 to the left are two books, 10 to the right is one: 6 is less than 10.
        run("shelf 20 2; shelf 20 0; shelf 20 0; group 16; book 0 3; book 0 3; book 0 10; turn 0 0",
            "of * 2 = 3 3 10; of * 3 = 1 1 1; cut 1 * = 2 1 0; price 1 * = 0 6 2");
        // 3 to the right is less than 10 to the left, though that has more on shelf 0.
        run("shelf 20 2; shelf 20 0; shelf 20 0; group 13; book 0 10; book 0 3; turn 0 0; of * 2 = 10 3",
            "cut 0 * = 0 2 0; cut 1 * = 0 1 1; price 1 * = 0 3 1");
    }

    @Says(at = "Term 2", value = "then its third one)")
    private static void fewestBooks() {
        // 10 to the right is one book, 5 and 5 to the left are two, though they'd fill shelf 0.
        run("shelf 20 2; shelf 20 0; shelf 20 0; group 4; book 0 5; book 0 5; book 0 10; turn 0 0",
            "of * 2 = 1 1 2; cut 0 * = 0 3 0; cut 2 * = 0 2 1; price 2 * = 0 10 1");
    }

    @Says(at = "Term 2", value = "of like ones those with most BOOKS on SHELF 0")
    private static void mostOnShelf0() {
        run("shelf 20 2; shelf 20 0; shelf 20 0; group 2; book 0 10; book 0 10; turn 0 0; cut 0 * = 0 2 0",
            "cut 1 * = 1 1 0; price 1 * = 0 10 1");
        run("shelf 20 0; shelf 20 0; group 0; book 0 10; of 0 3 = 0");
    }

    @Says(at = "Term 2", value = "then on SHELF 1, and so on")
    private static void mostOnShelf1() {
        run("shelf 20 0; shelf 20 2; shelf 20 0; shelf 20 0; group 0; group 2; book 0 20; book 1 10; book 1 10",
            "turn 1 0; cut 0 * = 1 0 2 0; cut 1 * = 1 1 1 0; price 1 * = 0 10 1");
        run("shelf 20 0; shelf 20 0; shelf 20 2; shelf 20 0; shelf 20 0; group 0; group 2; 2x book 0 20",
            "2x book 1 10",
            "turn 2 0; cut 0 * = 1 1 0 2 0; cut 1 * = 1 1 1 1 0");
        run("11x shelf 10 2; shelf 20 0; group 0; book 0 10; book 0 10; turn 0..9 0; turn 11 2",
            "cut 0 0..2 = 1 1 0");
    }

    // ---- term 2: plans

    @Says(at = "Term 2", value = "A PLAN is THE CUTS for Y as all is then")
    private static void planAsItWas() {
        run("shelf 20 0; shelf 20 0; group 2; book 0 10; book 0 10; cut 1 * = 1 1; plan 1; of * 6 = 0 1",
            "count 8 = 1");
        run(BOTH, "of * 6 = 0 0 2 2; limit 40; move; move; of * 6 = 0 0 2 2; planned * 0 = 3 2 0 1; count 8 = 0",
            "move; planned * 1 = 1 1 1 1; planned * 2 = 2 2 0 0");
    }

    @Says(at = "Term 2", value = "with MOVES: each BOOK that would stand on another SHELF")
    private static void movesOfOthersOnly() {
        run("shelf 20 0; shelf 20 0; group 2; book 0 10; book 0 10; plan 1 = 1; planned 0 0 = 1",
            "planned 1 0 = NONE",
            "count 6 = 1");
        run("shelf 20 0; shelf 20 0; group 2; book 0 10; book 0 10; plan 0 = 0; count 6 = 0; count 8 = NONE");
    }

    @Says(at = "Term 2", value = {"first those to the RIGHT, the last BOOK first",
        "then those to the LEFT, the first BOOK first"})
    private static void orderOfMoves() {
        run(BOTH, "planned * 0 = 3 2 0 1; planned * 3 = 1 1 2 2; move = 3; move = 2; move = 0; move = 1");
        run(RIGHT, "planned * 0 = 3 2 1 0; planned * 3 = 1 1 1 1; 4x move; turn 0 0; turn 2 2; plan 0 = 4",
            "planned * 0 = 0 1 2 3; planned * 3 = 2 2 2 2");
    }

    @Says(at = "Term 2", value = "A TRIP: MOVES one behind the other from one SHELF to one other, as many as can be")
    private static void trips() {
        run(RIGHT, "planned * 5 = 0 0 1 1; left 3 = 2");
        run(BOTH, "planned * 5 = 0 0 1 1; left 3 = 2");
        // From one shelf to two, then from two to one.
        run("shelf 40 0; group 0; 4x book 0 10; shelf 20 0; shelf 20 0; turn 0 2; plan 0 = 4",
            "planned * 1 = 0 0 0 0; planned * 2 = 2 2 1 1; planned * 5 = 0 0 1 1");
        run("shelf 10 0; shelf 10 0; group 0; 2x book 0 10; shelf 40 0; turn 0..1 2; plan 0 = 2",
            "planned * 1 = 1 0; planned * 2 = 2 2; planned * 5 = 0 1");
        // All in one.
        run("shelf 60 0; group 0; 60x book 0 1; shelf 60 0; turn 0 2; plan 0 = 60; left 3 = 1; planned 59 5 = 0");
    }

    @Says(at = "Term 2", value = {"DAYS: MOVES one behind the other",
        "on each DAY as long as their WIDTHS are LIMIT at most"})
    private static void days() {
        run(RIGHT, "limit 60; left 2 = 2; planned * 4 = 0 0 1 1; limit 59; left 2 = 4; planned * 4 = 0 1 2 3",
            "limit 119; left 2 = 2; planned * 4 = 0 0 0 1; limit 120; left 2 = 1; planned * 4 = 0 0 0 0");
        // 30, 30, 5, 5: the first 5 would have room on day 0, but is not the next one.
        run("shelf 80 0; group 0; book 0 5; book 0 5; book 0 30; book 0 30; shelf 80 0; turn 0 2; limit 40",
            "plan 0 = 4",
            "planned * 4 = 0 1 1 1; left 2 = 2; day = 1; day = 3; day = NONE");
        // The widest book by the least limit.
        run("shelf 80 0; group 0; 2x book 0 40; shelf 80 0; turn 0 2; limit 40; plan 0 = 2; left 2 = 2; day = 1",
            "day = 1");
    }

    @Says(at = "Term 2", value = "(40 to 400; 100 at first)")
    private static void limits() {
        run("count 5 = 100; limit 39 = false; limit 401 = false; limit WILD = false; count 5 = 100",
            "limit 100 = false");
        run("limit 40 = true; count 5 = 40; limit 400 = true; count 5 = 400; limit 100 = true; count 5 = 100");
    }

    @Says(at = "Term 2", value = "There is one PLAN at most.")
    private static void onePlan() {
        run(BOTH, "move = 3; plan 999 = 3; count 6 = 3; count 7 = 0; count 8 = 999; planned * 0 = 2 0 1",
            "drop = 3; drop = NONE");
    }

    private static void ends(String call, String after) {
        run(BOTH, "move = 3", call, NO_PLAN, after);
    }

    @Says(at = "Term 2", value = {"What changes SHELVES, GROUPS, BOOKS ends it", "(MOVES that are done stay done)"})
    private static void changesEndIt() {
        String stood = "of * 3 = 1 1 1 2; of * 5 = 0 0 0 1; count 10 = 1; log 0 * = 1 3 9 1 2";
        ends("shelf 10 0 = 3", stood);
        ends("turn 0 2 = true", stood);
        ends("group 0 = 1", stood);
        ends("grow 0 1 = true", stood);
        ends("book 0 1 = 4", "of * 3 = 1 1 1 2 2; of * 5 = 0 0 0 1 0; count 10 = 1; log 1 * = 1 3 9 1 2");
        ends("gone 0 = 1", "of * 3 = 1 1 2; of * 5 = 0 0 1; count 10 = 1; log 1 * = 1 3 9 1 2");
        ends("gone 3 = 2", "of * 3 = 1 1 1; of * 5 = 0 0 0; count 10 = 1; log 1 * = 1 3 9 1 2");
    }

    @Says(at = "Term 2", value = {"What changes SHELVES, GROUPS, BOOKS ends it"})
    private static void otherCallsDoNotEndIt() {
        Script.stays(BOTH + "; move = 3", "shelf 9 0 = NONE", "turn 0 0 = false", "group 100 = NONE",
            "grow 0 0 = false", "book 0 21 = NONE", "book 1 1 = NONE", "gone 4 = NONE", "limit 100 = false",
            "plan 1000 = NONE");
        run(BOTH, "move = 3; limit 50 = true; count 6 = 4; count 7 = 1; count 8 = 0; move = 2");
    }

    @Says(at = "Term 2", value = "so does its last MOVE.")
    private static void lastMoveEndsIt() {
        run(BOTH, "3x move; count 6 = 4; count 7 = 3; count 8 = 0; left 0 = 1",
            "move = 1", NO_PLAN, "of * 3 = 0 0 2 2");
        run(BOTH, "day = 4", NO_PLAN, "of * 3 = 0 0 2 2");
    }

    // ---- term 2: new books

    @Says(at = "Term 2", value = "A new BOOK comes behind all of its GROUP")
    private static void behindItsGroup() {
        run("shelf 200 0; group 0; group 0; group 0; book 0 5 = 0; book 2 6 = 1; book 1 7 = 1; book 1 8 = 2",
            "book 0 9 = 1",
            "of * 1 = 5 9 7 8 6; of * 0 = 0 0 1 1 2; book 2 1 = 5; of 5 0 = 2");
    }

    @Says(at = "Term 2", value = "it is put where THE CUTS for 0 put it")
    private static void wherePut() {
        run("shelf 20 0; shelf 20 0; shelf 20 0; group 0; group 0; group 0; book 0 10; of 0 3 = 0; book 2 20",
            "of 1 3 = 1",
            "book 1 10; of * 3 = 0 0 1");
        // It comes ahead of all the others, which stay where they are.
        run("shelf 20 0; shelf 20 0; shelf 20 0; group 0; group 3; 3x book 1 5; plan 10 = 2; day = 2",
            "of * 3 = 0 1 2; book 0 1 = 0; of * 3 = 0 0 1 2; count 10 = 2");
        // It comes between 8 and 10, 2 on a full shelf: 2 goes right, as 8 to the left would be more.
        run("shelf 20 2; shelf 20 0; shelf 40 0; group 0; group 0; group 0; book 0 8; book 2 10; book 2 2",
            "book 2 40",
            "of * 3 = 1 1 1 2; gone 3; turn 0 0; book 1 2 = 1; of * 3 = 1 1 1 2; of * 5 = 0 0 0 1");
        // For 0 years: the growth is no matter.
        run("shelf 20 0; shelf 20 0; group 99; book 0 10; book 0 10; of * 3 = 0 0; on 0 5 = 0");
        // A spare shelf only if there must be; others move rather than that.
        run("shelf 20 1; shelf 20 0; shelf 20 0; group 0; group 0; book 1 10; book 1 10; of * 3 = 1 1; book 0 5",
            "of * 3 = 1 1 2; price 0 * = 0 0 0");
        run("shelf 20 1; shelf 20 0; group 0; group 0; book 1 10; book 1 10; book 0 5; of * 3 = 0 1 1");
    }

    @Says(at = "Term 2", value = "it being none that moves")
    private static void putIsNoMove() {
        run("shelf 10 0; shelf 40 0; group 0; book 0 40 = 0; of 0 3 = 1; of 0 5 = 0; count 10 = 0; count 9 = 1",
            "log 0 0 = 0");
        // The book of 1 stays, wherever the new one might have stood.
        run("shelf 20 2; shelf 20 0; shelf 20 0; group 0; book 0 1; turn 0 0; book 0 10 = 1; of * 3 = 1 1",
            "count 10 = 0");
        // Of like cuts that with most on the left, wherever shelves are free.
        run("shelf 20 0; shelf 20 0; shelf 20 0; group 0; group 0; group 0; book 0 20; book 2 20; of * 3 = 0 1",
            "turn 1 2",
            "plan 0 = 1; move = 1; turn 1 0; book 1 20 = 1; of * 3 = 0 1 2; count 10 = 1");
    }

    @Says(at = "Term 2", value = "BOOKS that stand on another one then are moved at once.")
    private static void movedAtOnce() {
        run("shelf 20 0; shelf 20 0; shelf 20 0; group 0; group 0; book 1 10; book 1 10; book 1 20; of * 3 = 0 0 1",
            "book 0 5 = 0; of * 3 = 0 0 1 2; of * 5 = 0 0 1 1; count 10 = 2", NO_PLAN);
        // Those on a closed shelf too.
        run("shelf 20 0; shelf 40 0; group 0; book 0 10; turn 0 2; book 0 10 = 1; of * 3 = 1 1; of * 5 = 1 0",
            "on 0 7 = 0");
    }

    @Says(at = "Term 2", value = "HANDLED: how often a BOOK was moved (not: put).")
    private static void handled() {
        run("shelf 20 0; shelf 20 0; group 0; book 0 5; of 0 5 = 0; turn 0 2; plan 0 = 1; of 0 5 = 0; move = 0",
            "of 0 5 = 1",
            "turn 0 0; turn 1 2; plan 0 = 1; day = 1; of 0 5 = 2; turn 0 2; turn 1 0; book 0 6; of * 5 = 3 0",
            "count 10 = 3");
        run("shelf 20 0; group 0; group 0; book 1 5; book 0 5; of * 5 = 0 0; count 10 = 0");
        run("shelf 20 0; shelf 20 0; group 0; group 0; book 1 5; turn 0 2; plan 0 = 1; move = 0; of 0 5 = 1",
            "book 0 5 = 0; of * 5 = 0 1");
    }

    // ---- term 2: the log

    @Says(at = "Term 2", value = {"THE LOG: the latest 40 of:",
        "a BOOK put (kind 0), a MOVE (1, RIGHT; 2, LEFT), a BOOK that went (3)"})
    private static void logOfAllKinds() {
        run(BOTH, "3x move; gone 0; log 0..7 0 = 3 2 1 1 0 0 0 0; count 9 = 8; log 8 0 = NONE");
    }

    @Says(at = "Term 2", value = "THE LOG: the latest 40 of:")
    private static void fortyEntries() {
        run("shelf 200 0; group 0; 39x book 0 1; count 9 = 39; log 38 1 = 0; log 39 0 = NONE; book 0 2",
            "count 9 = 40",
            "log 39 1 = 0; log 40 0 = NONE; book 0 3; count 9 = 40; log 39 1 = 1; log 0 * = 0 40 3 NONE 0",
            "log 40 0 = NONE");
        // 45 moves at once: the put one and the 39 latest of them stay.
        run("shelf 60 0; group 0; 45x book 0 1; shelf 60 0; turn 0 2; book 0 1 = 45; count 10 = 45; count 9 = 40",
            "log 0 * = 0 45 1 NONE 1; log 1 * = 1 0 1 0 1; log 39 * = 1 38 1 0 1; log 40 0 = NONE");
    }

    @Says(at = "Term 2", value = {"each with the BOOK's number ahead of it (of one that is put: then)",
        "its WIDTH, SHELVES from and to (NONE: none)"})
    private static void entries() {
        run("shelf 20 2; shelf 20 0; group 0; group 0; book 1 5; book 0 6 = 0; log 0 * = 0 0 6 NONE 1",
            "log 1 * = 0 0 5 NONE 1",
            "turn 0 0; turn 1 2; plan 0 = 2; move; log 0 * = 2 0 6 1 0; turn 0 2; turn 1 0; plan 0 = 1; move = 0",
            "log 0 * = 1 0 6 0 1; gone 1; log 0 * = 3 1 5 1 NONE; gone 0; log 0 * = 3 0 6 1 NONE");
    }

    @Says(at = "Term 2", value = {"MOVES at once by a new BOOK are told ahead of it, in the order of a PLAN",
        "by numbers that BOOKS had ahead of it."})
    private static void entriesOfMovesAtOnce() {
        run("shelf 20 2; shelf 30 0; shelf 20 0; group 0; group 0; group 0; book 0 10; book 2 10; book 2 10",
            "turn 0 0; turn 1 1",
            "book 1 10 = 1; of * 3 = 0 0 2 2; log 0 * = 0 1 10 NONE 0; log 1 * = 2 0 10 1 0",
            "log 2 * = 1 1 10 1 2; log 3 * = 1 2 10 1 2; count 9 = 7");
    }

    public static void main(String[] args) throws java.io.IOException {
        Sentences.run(TermEdgesTest.class, "Term 1", "Term 2");
    }
}
