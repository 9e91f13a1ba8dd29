import java.util.NoSuchElementException;

/**
 * A collection in one order over fixed shelves, whose groups grow year by year: how long each
 * shelf lasts, how the books are best cut over the shelves, and the moves that bring this about.
 */
public final class ShelfShift {
    public static final int NONE = -1;

    private static final int MOST_SHELVES = 12;
    private static final int LEAST_LENGTH = 10;
    private static final int MOST_LENGTH = 200;
    private static final int MOST_GROUPS = 8;
    private static final int MOST_GROWTH = 99;
    private static final int MOST_BOOKS = 60;
    private static final int MOST_WIDTH = 40;
    private static final int MOST_YEARS = 999;
    private static final int LEAST_LIMIT = 40;
    private static final int MOST_LIMIT = 400;
    private static final int FIRST_LIMIT = 100;

    private static final int OPEN = 0;
    private static final int SPARE = 1;
    private static final int CLOSED = 2;

    private static final int PUT = 0;
    private static final int RIGHT = 1;
    private static final int LEFT = 2;
    private static final int WENT = 3;

    private final Shelves shelves;
    private final Groups groups;
    private final Books books;
    private final Cutter cutter;
    private final Plan plan;
    private final Logbook logbook;
    private int dayLimit;

    public ShelfShift() {
        shelves = new Shelves();
        groups = new Groups();
        books = new Books();
        cutter = new Cutter();
        plan = new Plan();
        logbook = new Logbook();
        dayLimit = FIRST_LIMIT;
    }

    // ---- what there is

    public int shelf(int length, int kind) {
        boolean canBe = isWithin(length, LEAST_LENGTH, MOST_LENGTH) && isWithin(kind, OPEN, CLOSED);
        if (!canBe || shelves.count >= MOST_SHELVES) {
            return NONE;
        }
        plan.end();
        return shelves.add(length, kind);
    }

    public boolean turn(int shelf, int kind) {
        if (!hasShelf(shelf) || !isWithin(kind, OPEN, CLOSED) || shelves.kind[shelf] == kind) {
            return false;
        }
        shelves.kind[shelf] = kind;
        plan.end();
        return true;
    }

    public int group(int growth) {
        if (!isWithin(growth, 0, MOST_GROWTH) || groups.count >= MOST_GROUPS) {
            return NONE;
        }
        plan.end();
        return groups.add(growth);
    }

    public boolean grow(int group, int growth) {
        if (!hasGroup(group) || !isWithin(growth, 0, MOST_GROWTH) || groups.growth[group] == growth) {
            return false;
        }
        groups.growth[group] = growth;
        books.shareGrowth(group, growth);
        plan.end();
        return true;
    }

    public int book(int group, int width) {
        if (!hasGroup(group) || !isWithin(width, 1, MOST_WIDTH) || books.count >= MOST_BOOKS) {
            return NONE;
        }
        int number = books.numberBehind(group);
        cutter.load(shelves, books, 0);
        cutter.insert(number, width);
        if (!cutter.findCuts()) {
            return NONE;
        }
        int shelf = cutter.goes[number];
        // The others are moved while they still bear their old numbers: the log tells those.
        cutter.forget(number);
        moveAtOnce();
        books.insert(number, group, width, shelf);
        books.shareGrowth(group, groups.growth[group]);
        logbook.write(PUT, number, width, NONE, shelf);
        return number;
    }

    public int gone(int book) {
        if (!hasBook(book)) {
            return NONE;
        }
        int shelf = books.shelf[book];
        int group = books.group[book];
        logbook.write(WENT, book, books.width[book], shelf, NONE);
        books.remove(book);
        if (hasGroup(group)) {
            books.shareGrowth(group, groups.growth[group]);
        }
        plan.end();
        return shelf;
    }

    public boolean limit(int limit) {
        if (!isWithin(limit, LEAST_LIMIT, MOST_LIMIT) || limit == dayLimit) {
            return false;
        }
        dayLimit = limit;
        return true;
    }

    public int count(int what) {
        switch (what) {
            case 0:
                return shelves.count;
            case 1:
                return groups.count;
            case 2:
                return books.count;
            case 3:
                return books.allWidths();
            case 4:
                return shelves.openLengths();
            case 5:
                return dayLimit;
            case 6:
                return plan.total;
            case 7:
                return plan.done;
            case 8:
                return plan.exists() ? plan.years : NONE;
            case 9:
                return logbook.count;
            case 10:
                return books.handledInAll;
            default:
                return NONE;
        }
    }

    public int on(int shelf, int what) throws NoSuchElementException {
        if (!hasShelf(shelf)) {
            throw new NoSuchElementException("no such shelf");
        }
        switch (what) {
            case 0:
                return shelves.length[shelf];
            case 1:
                return shelves.kind[shelf];
            case 2:
                return books.loadOn(shelf);
            case 3:
                return roomOn(shelf);
            case 4:
                return books.rateOn(shelf);
            case 5:
                return yearsOn(shelf);
            case 6:
                return books.firstOn(shelf);
            case 7:
                return books.countOn(shelf);
            default:
                throw new NoSuchElementException("no such what");
        }
    }

    public int in(int group, int what) throws NoSuchElementException {
        if (!hasGroup(group)) {
            throw new NoSuchElementException("no such group");
        }
        switch (what) {
            case 0:
                return groups.growth[group];
            case 1:
                return books.countIn(group);
            case 2:
                return books.widthsIn(group);
            case 3:
                return books.firstIn(group);
            case 4:
                return books.shelvesOf(group);
            default:
                throw new NoSuchElementException("no such what");
        }
    }

    public int of(int book, int what) throws NoSuchElementException {
        if (!hasBook(book)) {
            throw new NoSuchElementException("no such book");
        }
        switch (what) {
            case 0:
                return books.group[book];
            case 1:
                return books.width[book];
            case 2:
                return books.need[book];
            case 3:
                return books.shelf[book];
            case 4:
                return books.widthsAheadOf(book);
            case 5:
                return books.handled[book];
            case 6:
                return plan.exists() ? plan.goes[book] : NONE;
            default:
                throw new NoSuchElementException("no such what");
        }
    }

    public int lasts() {
        int least = MOST_YEARS;
        for (int s = 0; s < shelves.count; s++) {
            if (books.countOn(s) > 0) {
                least = Math.min(least, yearsOn(s));
            }
        }
        return least;
    }

    // ---- cuts

    public int cut(int y, int shelf) {
        if (!hasShelf(shelf) || !hasCuts(y)) {
            return NONE;
        }
        return cutter.taken[shelf];
    }

    public int price(int y, int what) {
        if (!isWithin(what, 0, 2) || !hasCuts(y)) {
            return NONE;
        }
        return cutter.partOfPrice(what);
    }

    public int best(boolean open) {
        int worstKind = open ? OPEN : SPARE;
        if (!isRoomFor(0, worstKind)) {
            return NONE;
        }
        // More years never need less room, so the greatest number is found by halving steps.
        int years = 0;
        for (int step = 512; step > 0; step /= 2) {
            if (years + step <= MOST_YEARS && isRoomFor(years + step, worstKind)) {
                years += step;
            }
        }
        return years;
    }

    public int tight() {
        cutter.load(shelves, books, 0);
        int filled = cutter.shelvesFilled(OPEN);
        return filled > 0 ? filled - 1 : NONE;
    }

    public int more(int group, int width) {
        if (!hasGroup(group) || !isWithin(width, 1, MOST_WIDTH)) {
            return NONE;
        }
        int number = books.numberBehind(group);
        int most = MOST_BOOKS - books.count;
        cutter.load(shelves, books, 0);
        for (int came = 0; came < most; came++) {
            cutter.insert(number, width);
            if (cutter.shelvesFilled(SPARE) == NONE) {
                return came;
            }
        }
        return most;
    }

    // ---- the plan

    public int plan(int y) {
        if (!hasCuts(y)) {
            return NONE;
        }
        plan.make(books, cutter.goes, y);
        return plan.total;
    }

    public int drop() {
        if (!plan.exists()) {
            return NONE;
        }
        int undone = plan.total - plan.done;
        plan.end();
        return undone;
    }

    public int move() {
        return plan.exists() ? makeNextMove() : NONE;
    }

    public int day() {
        if (!plan.exists()) {
            return NONE;
        }
        int moves = plan.movesOfNextDay(dayLimit);
        for (int k = 0; k < moves; k++) {
            makeNextMove();
        }
        return moves;
    }

    public int planned(int k, int what) {
        if (k < 0 || k >= plan.total) {
            return NONE;
        }
        switch (what) {
            case 0:
                return plan.book[k];
            case 1:
                return plan.from[k];
            case 2:
                return plan.to[k];
            case 3:
                return plan.direction(k);
            case 4:
                return plan.days(0, k + 1, dayLimit) - 1;
            case 5:
                return plan.trips(0, k + 1) - 1;
            case 6:
                return plan.takenAheadOf(k);
            default:
                return NONE;
        }
    }

    public int left(int what) {
        if (!plan.exists()) {
            return NONE;
        }
        switch (what) {
            case 0:
                return plan.total - plan.done;
            case 1:
                return plan.widthsLeft();
            case 2:
                return plan.days(plan.done, plan.total, dayLimit);
            case 3:
                return plan.trips(plan.done, plan.total);
            case 4:
                return plan.rightsLeft();
            default:
                return NONE;
        }
    }

    public int enough(int days) {
        if (!plan.exists() || plan.days(plan.done, plan.total, MOST_LIMIT) > days) {
            return NONE;
        }
        // A greater limit never takes more days: the greatest one that is too small is sought.
        int tooSmall = LEAST_LIMIT - 1;
        for (int step = 256; step > 0; step /= 2) {
            int tried = tooSmall + step;
            if (tried < MOST_LIMIT && plan.days(plan.done, plan.total, tried) > days) {
                tooSmall = tried;
            }
        }
        return tooSmall + 1;
    }

    // ---- the log

    public int log(int k, int what) {
        return logbook.read(k, what);
    }

    // ---- helpers of the calls

    private static boolean isWithin(int number, int least, int most) {
        return number >= least && number <= most;
    }

    private boolean hasShelf(int shelf) {
        return shelf >= 0 && shelf < shelves.count;
    }

    private boolean hasGroup(int group) {
        return group >= 0 && group < groups.count;
    }

    private boolean hasBook(int book) {
        return book >= 0 && book < books.count;
    }

    private int roomOn(int shelf) {
        return shelves.length[shelf] - books.loadOn(shelf);
    }

    private int yearsOn(int shelf) {
        int rate = books.rateOn(shelf);
        return rate > 0 ? Math.min(MOST_YEARS, roomOn(shelf) / rate) : MOST_YEARS;
    }

    /** Whether there are cuts for y; the cutter holds them then. */
    private boolean hasCuts(int y) {
        if (!isWithin(y, 0, MOST_YEARS)) {
            return false;
        }
        cutter.load(shelves, books, y);
        return cutter.findCuts();
    }

    private boolean isRoomFor(int y, int worstKind) {
        cutter.load(shelves, books, y);
        return cutter.shelvesFilled(worstKind) != NONE;
    }

    private void moveAtOnce() {
        plan.make(books, cutter.goes, 0);
        int moves = plan.total;
        for (int k = 0; k < moves; k++) {
            makeNextMove();
        }
    }

    private int makeNextMove() {
        int k = plan.done;
        int book = plan.book[k];
        logbook.write(plan.direction(k), book, plan.width[k], plan.from[k], plan.to[k]);
        books.carry(book, plan.to[k]);
        plan.stepOn();
        return book;
    }

    /** The shelves from the left to the right. */
    private static final class Shelves {
        final int[] length = new int[MOST_SHELVES];
        final int[] kind = new int[MOST_SHELVES];
        int count;

        int add(int newLength, int newKind) {
            int number = count;
            length[number] = newLength;
            kind[number] = newKind;
            count++;
            return number;
        }

        int openLengths() {
            int sum = 0;
            for (int s = 0; s < count; s++) {
                if (kind[s] == OPEN) {
                    sum += length[s];
                }
            }
            return sum;
        }
    }

    /** The groups, in the order of their books. */
    private static final class Groups {
        final int[] growth = new int[MOST_GROUPS];
        int count;

        int add(int newGrowth) {
            int number = count;
            growth[number] = newGrowth;
            count++;
            return number;
        }
    }

    /** The books in their order, a row for each thing that is known of them. */
    private static final class Books {
        final int[] group = new int[MOST_BOOKS];
        final int[] width = new int[MOST_BOOKS];
        final int[] need = new int[MOST_BOOKS];
        final int[] shelf = new int[MOST_BOOKS];
        final int[] handled = new int[MOST_BOOKS];
        private final int[] lost = new int[MOST_BOOKS];
        int count;
        int handledInAll;

        /** The number that a new book of a group gets. */
        int numberBehind(int ofGroup) {
            int number = 0;
            while (number < count && group[number] <= ofGroup) {
                number++;
            }
            return number;
        }

        void insert(int number, int ofGroup, int newWidth, int onShelf) {
            openGap(group, number);
            openGap(width, number);
            openGap(need, number);
            openGap(shelf, number);
            openGap(handled, number);
            count++;
            group[number] = ofGroup;
            width[number] = newWidth;
            need[number] = 0;
            shelf[number] = onShelf;
            handled[number] = 0;
        }

        private void openGap(int[] row, int number) {
            System.arraycopy(row, number, row, number + 1, count - number);
        }

        void remove(int number) {
            count--;
            closeGap(group, number);
            closeGap(width, number);
            closeGap(need, number);
            closeGap(shelf, number);
            closeGap(handled, number);
        }

        private void closeGap(int[] row, int number) {
            System.arraycopy(row, number + 1, row, number, count - number);
        }

        void carry(int number, int toShelf) {
            shelf[number] = toShelf;
            handled[number]++;
            handledInAll++;
        }

        /** Gives each book of a group its need. */
        void shareGrowth(int ofGroup, int growth) {
            int widths = widthsIn(ofGroup);
            if (widths <= 0) {
                return;
            }
            int left = growth;
            for (int b = 0; b < count; b++) {
                if (group[b] == ofGroup) {
                    need[b] = growth * width[b] / widths;
                    lost[b] = growth * width[b] % widths;
                    left -= need[b];
                }
            }
            for (int b = 0; b < count && left > 0; b++) {
                left -= giveOneMore(ofGroup);
            }
        }

        /** One more for the first of those that lost most by rounding: 1, or 0 if none is there. */
        private int giveOneMore(int ofGroup) {
            int chosen = NONE;
            for (int b = 0; b < count; b++) {
                if (group[b] == ofGroup && (chosen == NONE || lost[b] > lost[chosen])) {
                    chosen = b;
                }
            }
            if (chosen == NONE) {
                return 0;
            }
            need[chosen]++;
            // Less than any part can lose: it does not get another one.
            lost[chosen] = -1;
            return 1;
        }

        int allWidths() {
            int sum = 0;
            for (int b = 0; b < count; b++) {
                sum += width[b];
            }
            return sum;
        }

        int loadOn(int s) {
            return sumWith(shelf, s, width);
        }

        int rateOn(int s) {
            return sumWith(shelf, s, need);
        }

        int firstOn(int s) {
            return firstWith(shelf, s);
        }

        int countOn(int s) {
            return countWith(shelf, s);
        }

        int firstIn(int g) {
            return firstWith(group, g);
        }

        int countIn(int g) {
            return countWith(group, g);
        }

        int widthsIn(int g) {
            return sumWith(group, g, width);
        }

        private int firstWith(int[] row, int value) {
            for (int b = 0; b < count; b++) {
                if (row[b] == value) {
                    return b;
                }
            }
            return NONE;
        }

        private int sumWith(int[] row, int value, int[] amounts) {
            int sum = 0;
            for (int b = 0; b < count; b++) {
                if (row[b] == value) {
                    sum += amounts[b];
                }
            }
            return sum;
        }

        private int countWith(int[] row, int value) {
            int found = 0;
            for (int b = 0; b < count; b++) {
                if (row[b] == value) {
                    found++;
                }
            }
            return found;
        }

        /** On how many shelves a group stands; shelves never go back, so each change is a new one. */
        int shelvesOf(int g) {
            int found = 0;
            int latest = NONE;
            for (int b = 0; b < count; b++) {
                if (group[b] == g && shelf[b] != latest) {
                    latest = shelf[b];
                    found++;
                }
            }
            return found;
        }

        int widthsAheadOf(int number) {
            int sum = 0;
            for (int b = 0; b < number; b++) {
                if (shelf[b] == shelf[number]) {
                    sum += width[b];
                }
            }
            return sum;
        }
    }

    /** Seeks cuts for what is loaded first; a new book may be put into its row of books. */
    private static final class Cutter {
        // A price is one number: its three parts never reach the weight of the part ahead.
        private static final int SPARE_WEIGHT = 1000000;
        private static final int WIDTH_WEIGHT = 100;
        private static final int IMPOSSIBLE = 1000000000;

        final int[] goes = new int[MOST_BOOKS];
        final int[] taken = new int[MOST_SHELVES];
        private final int[] length = new int[MOST_SHELVES];
        private final int[] kind = new int[MOST_SHELVES];
        private final int[] width = new int[MOST_BOOKS];
        private final int[] span = new int[MOST_BOOKS];
        private final int[] stands = new int[MOST_BOOKS];
        private final int[][] least = new int[MOST_SHELVES + 1][MOST_BOOKS + 1];
        private final int[][] most = new int[MOST_SHELVES][MOST_BOOKS + 1];
        private int shelfCount;
        private int count;
        private int leastPrice;

        void load(Shelves shelves, Books books, int y) {
            shelfCount = shelves.count;
            for (int s = 0; s < shelfCount; s++) {
                length[s] = shelves.length[s];
                kind[s] = shelves.kind[s];
            }
            count = books.count;
            for (int b = 0; b < count; b++) {
                width[b] = books.width[b];
                span[b] = books.width[b] + y * books.need[b];
                stands[b] = books.shelf[b];
            }
        }

        /** A new book, which stands nowhere yet and so is none that moves. */
        void insert(int number, int newWidth) {
            if (count >= MOST_BOOKS) {
                return;
            }
            System.arraycopy(width, number, width, number + 1, count - number);
            System.arraycopy(span, number, span, number + 1, count - number);
            System.arraycopy(stands, number, stands, number + 1, count - number);
            count++;
            width[number] = newWidth;
            span[number] = newWidth;
            stands[number] = NONE;
        }

        /** Takes a new book out of what was found, so that the others have their old numbers. */
        void forget(int number) {
            System.arraycopy(goes, number + 1, goes, number, count - number - 1);
            count--;
        }

        /** Fills shelf after shelf: how many it takes up to the last book's, NONE if not all fit. */
        int shelvesFilled(int worstKind) {
            int placed = 0;
            int filled = 0;
            while (filled < shelfCount && placed < count) {
                if (kind[filled] <= worstKind) {
                    placed = fill(placed, filled);
                }
                filled++;
            }
            return placed == count ? filled : NONE;
        }

        private int fill(int first, int s) {
            int room = length[s];
            int b = first;
            while (b < count && span[b] <= room) {
                room -= span[b];
                b++;
            }
            return b;
        }

        /** From the last shelf to the first: the least price for all books from each one on. */
        boolean findCuts() {
            for (int b = 0; b < count; b++) {
                least[shelfCount][b] = IMPOSSIBLE;
            }
            least[shelfCount][count] = 0;
            for (int s = shelfCount - 1; s >= 0; s--) {
                for (int b = 0; b <= count; b++) {
                    chooseMost(s, b);
                }
            }
            leastPrice = least[0][0];
            if (leastPrice >= IMPOSSIBLE) {
                return false;
            }
            follow();
            return true;
        }

        /** Of the cheapest numbers of books for a shelf the greatest one is kept. */
        private void chooseMost(int s, int first) {
            int[] behind = least[s + 1];
            int cheapest = behind[first];
            int chosen = 0;
            int own = kind[s] == SPARE ? SPARE_WEIGHT : 0;
            int room = kind[s] == CLOSED ? 0 : length[s];
            for (int b = first; b < count && span[b] <= room; b++) {
                room -= span[b];
                own += priceOfMove(b, s);
                if (own + behind[b + 1] <= cheapest) {
                    cheapest = own + behind[b + 1];
                    chosen = b + 1 - first;
                }
            }
            least[s][first] = cheapest;
            most[s][first] = chosen;
        }

        private int priceOfMove(int b, int s) {
            boolean stays = stands[b] == s || stands[b] == NONE;
            return stays ? 0 : WIDTH_WEIGHT * width[b] + 1;
        }

        private void follow() {
            int first = 0;
            for (int s = 0; s < shelfCount; s++) {
                taken[s] = most[s][first];
                int end = first + taken[s];
                for (int b = first; b < end; b++) {
                    goes[b] = s;
                }
                first = end;
            }
        }

        int partOfPrice(int what) {
            switch (what) {
                case 0:
                    return leastPrice / SPARE_WEIGHT;
                case 1:
                    return leastPrice % SPARE_WEIGHT / WIDTH_WEIGHT;
                default:
                    return leastPrice % WIDTH_WEIGHT;
            }
        }
    }

    /** The moves to be made, done ones too; without moves there is no plan. */
    private static final class Plan {
        final int[] goes = new int[MOST_BOOKS];
        final int[] book = new int[MOST_BOOKS];
        final int[] width = new int[MOST_BOOKS];
        final int[] from = new int[MOST_BOOKS];
        final int[] to = new int[MOST_BOOKS];
        int total;
        int done;
        int years;

        boolean exists() {
            return done < total;
        }

        void end() {
            total = 0;
            done = 0;
        }

        /** Those to the right from the last on, then those to the left from the first on. */
        void make(Books books, int[] shelfOf, int y) {
            end();
            years = y;
            System.arraycopy(shelfOf, 0, goes, 0, books.count);
            for (int b = books.count - 1; b >= 0; b--) {
                if (goes[b] > books.shelf[b]) {
                    add(books, b);
                }
            }
            for (int b = 0; b < books.count; b++) {
                if (goes[b] < books.shelf[b]) {
                    add(books, b);
                }
            }
        }

        private void add(Books books, int b) {
            if (total >= MOST_BOOKS) {
                return;
            }
            book[total] = b;
            width[total] = books.width[b];
            from[total] = books.shelf[b];
            to[total] = goes[b];
            total++;
        }

        void stepOn() {
            done++;
            if (done >= total) {
                end();
            }
        }

        int direction(int k) {
            return to[k] > from[k] ? RIGHT : LEFT;
        }

        int movesOfNextDay(int limit) {
            int sum = 0;
            int k = done;
            while (k < total && sum + width[k] <= limit) {
                sum += width[k];
                k++;
            }
            return k - done;
        }

        /** How many days the moves from one up to (not with) another take. */
        int days(int first, int end, int limit) {
            int days = 0;
            int sum = 0;
            for (int k = first; k < end; k++) {
                if (k == first || sum + width[k] > limit) {
                    days++;
                    sum = 0;
                }
                sum += width[k];
            }
            return days;
        }

        int trips(int first, int end) {
            int trips = 0;
            for (int k = first; k < end; k++) {
                if (k == first || from[k] != from[k - 1] || to[k] != to[k - 1]) {
                    trips++;
                }
            }
            return trips;
        }

        int takenAheadOf(int k) {
            int found = 0;
            for (int ahead = 0; ahead < k; ahead++) {
                if (from[ahead] == to[k]) {
                    found++;
                }
            }
            return found;
        }

        int widthsLeft() {
            int sum = 0;
            for (int k = done; k < total; k++) {
                sum += width[k];
            }
            return sum;
        }

        int rightsLeft() {
            int found = 0;
            for (int k = done; k < total; k++) {
                if (direction(k) == RIGHT) {
                    found++;
                }
            }
            return found;
        }
    }

    /** The latest entries, in a ring. */
    private static final class Logbook {
        private static final int MOST_ENTRIES = 40;
        private static final int PARTS = 5;

        private final int[] parts = new int[MOST_ENTRIES * PARTS];
        private int next;
        int count;

        void write(int kind, int book, int width, int from, int to) {
            int first = next * PARTS;
            parts[first] = kind;
            parts[first + 1] = book;
            parts[first + 2] = width;
            parts[first + 3] = from;
            parts[first + 4] = to;
            next = (next + 1) % MOST_ENTRIES;
            count = Math.min(count + 1, MOST_ENTRIES);
        }

        int read(int k, int what) {
            if (k < 0 || k >= count || what < 0 || what >= PARTS) {
                return NONE;
            }
            int entry = (next + MOST_ENTRIES - 1 - k) % MOST_ENTRIES;
            return parts[entry * PARTS + what];
        }
    }
}
