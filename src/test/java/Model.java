import java.util.ArrayList;
import java.util.Arrays;
import java.util.List;
import java.util.NoSuchElementException;

/**
 * The document once more, as slow and as literal as can be: lists of objects, prices as rows of
 * numbers, every cut tried. The random runs hold ShelfShift against it.
 */
final class Model {
    static final int NONE = -1;

    static final class Shelf {
        int length;
        int kind;
    }

    static final class Book {
        int group;
        int width;
        Shelf shelf;
        int handled;
    }

    static final class Move {
        Book book;
        int number;
        int from;
        int to;

        boolean right() {
            return to > from;
        }
    }

    /** Whether all cuts are too many to be tried one by one. */
    final boolean large;
    final List<Shelf> shelves = new ArrayList<>();
    final List<Integer> growth = new ArrayList<>();
    final List<Book> books = new ArrayList<>();
    final List<int[]> log = new ArrayList<>();
    List<Move> moves = null;
    int done;
    int planY;
    int[] planCuts;
    int limit = 100;
    int handledAll;

    Model(boolean large) {
        this.large = large;
    }

    // ---- terms

    int numberOf(Shelf s) {
        return shelves.indexOf(s);
    }

    int need(Book book) {
        int all = 0;
        for (Book b : books) {
            if (b.group == book.group) {
                all += b.width;
            }
        }
        int g = growth.get(book.group);
        int given = 0;
        List<Book> mates = new ArrayList<>();
        for (Book b : books) {
            if (b.group == book.group) {
                mates.add(b);
                given += g * b.width / all;
            }
        }
        final int whole = all;
        mates.sort((a, b) -> Integer.compare(g * b.width % whole, g * a.width % whole));
        int place = mates.indexOf(book);
        return g * book.width / all + (place < g - given ? 1 : 0);
    }

    int load(Shelf s) {
        int sum = 0;
        for (Book b : books) {
            sum += b.shelf == s ? b.width : 0;
        }
        return sum;
    }

    int rate(Shelf s) {
        int sum = 0;
        for (Book b : books) {
            sum += b.shelf == s ? need(b) : 0;
        }
        return sum;
    }

    int years(Shelf s) {
        int rate = rate(s);
        return rate == 0 ? 999 : Math.min(999, (s.length - load(s)) / rate);
    }

    /** Tries every cut (of a small run), those with most books on the left first; the first of the least price stays. */
    final class Search {
        final int y;
        final boolean spareToo;
        final List<Book> row;
        final int[] needs;
        final int[] now;
        int[] bestCuts = null;
        int[] bestPrice = null;

        Search(List<Book> row, int y, boolean spareToo) {
            this.row = row;
            this.y = y;
            this.spareToo = spareToo;
            needs = new int[row.size()];
            for (int i = 0; i < needs.length; i++) {
                needs[i] = y == 0 ? 0 : need(row.get(i));
            }
            now = new int[shelves.size()];
        }

        Search run() {
            if (large) {
                int[] best = cheapest(0, 0, new int[shelves.size() + 1][row.size() + 1][]);
                bestPrice = best == null ? null : Arrays.copyOf(best, 3);
                bestCuts = best == null ? null : Arrays.copyOfRange(best, 3, best.length);
            } else {
                place(0, 0, new int[3]);
            }
            return this;
        }

        /** For large runs: price and cuts from a shelf and a book on, each sought once; null: none. */
        int[] cheapest(int s, int first, int[][][] known) {
            if (s == shelves.size()) {
                return first == row.size() ? new int[3] : null;
            }
            if (known[s][first] != null) {
                return known[s][first].length == 0 ? null : known[s][first];
            }
            int[] best = null;
            for (int k = mostOn(s, first); k >= 0; k--) {
                int[] rest = cheapest(s + 1, first + k, known);
                if (rest == null) {
                    continue;
                }
                int[] price = dearer(Arrays.copyOf(rest, 3), s, first, k);
                if (best == null || Arrays.compare(price, Arrays.copyOf(best, 3)) < 0) {
                    best = new int[rest.length + 1];
                    System.arraycopy(price, 0, best, 0, 3);
                    best[3] = k;
                    System.arraycopy(rest, 3, best, 4, rest.length - 3);
                }
            }
            known[s][first] = best == null ? new int[0] : best;
            return best;
        }

        int mostOn(int s, int first) {
            Shelf shelf = shelves.get(s);
            int used = 0;
            int most = 0;
            boolean may = shelf.kind == 0 || shelf.kind == 1 && spareToo;
            while (may && first + most < row.size()) {
                used += row.get(first + most).width + y * needs[first + most];
                if (used > shelf.length) {
                    break;
                }
                most++;
            }
            return most;
        }

        /** A price with that of k books from a first one on a shelf. */
        int[] dearer(int[] price, int s, int first, int k) {
            Shelf shelf = shelves.get(s);
            int[] more = price.clone();
            more[0] += k > 0 && shelf.kind == 1 ? 1 : 0;
            for (int i = first; i < first + k; i++) {
                Book b = row.get(i);
                if (b.shelf != null && b.shelf != shelf) {
                    more[1] += b.width;
                    more[2]++;
                }
            }
            return more;
        }

        void place(int s, int first, int[] price) {
            if (bestPrice != null && Arrays.compare(price, bestPrice) >= 0) {
                return;
            }
            if (s == shelves.size()) {
                if (first == row.size()) {
                    bestPrice = price.clone();
                    bestCuts = now.clone();
                }
                return;
            }
            for (int k = mostOn(s, first); k >= 0; k--) {
                now[s] = k;
                place(s + 1, first + k, dearer(price, s, first, k));
            }
            now[s] = 0;
        }
    }

    Search cuts(int y) {
        return new Search(books, y, true).run();
    }

    static int shelfByCuts(int[] cuts, int book) {
        int behind = 0;
        for (int s = 0; s < cuts.length; s++) {
            behind += cuts[s];
            if (book < behind) {
                return s;
            }
        }
        throw new IllegalStateException();
    }

    List<Move> movesTo(List<Book> row, int[] cuts) {
        List<Move> right = new ArrayList<>();
        List<Move> left = new ArrayList<>();
        for (int i = 0; i < row.size(); i++) {
            Book b = row.get(i);
            int to = shelfByCuts(cuts, i);
            if (b.shelf == null || numberOf(b.shelf) == to) {
                continue;
            }
            Move m = new Move();
            m.book = b;
            m.number = books.indexOf(b);
            m.from = numberOf(b.shelf);
            m.to = to;
            if (m.right()) {
                right.add(0, m);
            } else {
                left.add(m);
            }
        }
        right.addAll(left);
        return right;
    }

    void write(int kind, int book, int width, int from, int to) {
        log.add(0, new int[] {kind, book, width, from, to});
        if (log.size() > 40) {
            log.remove(40);
        }
    }

    void carry(Move m) {
        m.book.shelf = shelves.get(m.to);
        m.book.handled++;
        handledAll++;
        write(m.right() ? 1 : 2, m.number, m.book.width, m.from, m.to);
        checkOrderAndRoom();
    }

    /** What the document says of every moment: the order is kept, no shelf is too full. */
    void checkOrderAndRoom() {
        for (int i = 1; i < books.size(); i++) {
            if (numberOf(books.get(i).shelf) < numberOf(books.get(i - 1).shelf)) {
                throw new IllegalStateException("order");
            }
        }
        for (Shelf s : shelves) {
            if (load(s) > s.length) {
                throw new IllegalStateException("too full");
            }
        }
    }

    // ---- the face

    boolean within(int x, int a, int b) {
        return a <= x && x <= b;
    }

    int shelf(int length, int kind) {
        if (shelves.size() == 12 || !within(length, 10, 200) || !within(kind, 0, 2)) {
            return NONE;
        }
        Shelf s = new Shelf();
        s.length = length;
        s.kind = kind;
        shelves.add(s);
        moves = null;
        return shelves.size() - 1;
    }

    boolean turn(int shelf, int kind) {
        if (!within(shelf, 0, shelves.size() - 1) || !within(kind, 0, 2) || shelves.get(shelf).kind == kind) {
            return false;
        }
        shelves.get(shelf).kind = kind;
        moves = null;
        return true;
    }

    int group(int g) {
        if (growth.size() == 8 || !within(g, 0, 99)) {
            return NONE;
        }
        growth.add(g);
        moves = null;
        return growth.size() - 1;
    }

    boolean grow(int group, int g) {
        if (!within(group, 0, growth.size() - 1) || !within(g, 0, 99) || growth.get(group) == g) {
            return false;
        }
        growth.set(group, g);
        moves = null;
        return true;
    }

    int behind(int group) {
        int at = 0;
        for (Book b : books) {
            at += b.group <= group ? 1 : 0;
        }
        return at;
    }

    List<Book> rowWith(Book fresh, List<Book> row) {
        List<Book> longer = new ArrayList<>(row);
        int at = 0;
        for (Book b : row) {
            at += b.group <= fresh.group ? 1 : 0;
        }
        longer.add(at, fresh);
        return longer;
    }

    static Book fresh(int group, int width) {
        Book b = new Book();
        b.group = group;
        b.width = width;
        return b;
    }

    int book(int group, int width) {
        if (books.size() == 60 || !within(group, 0, growth.size() - 1) || !within(width, 1, 40)) {
            return NONE;
        }
        Book b = fresh(group, width);
        List<Book> row = rowWith(b, books);
        int[] cuts = new Search(row, 0, true).run().bestCuts;
        if (cuts == null) {
            return NONE;
        }
        for (Move m : movesTo(row, cuts)) {
            carry(m);
        }
        int at = row.indexOf(b);
        b.shelf = shelves.get(shelfByCuts(cuts, at));
        books.add(at, b);
        write(0, at, width, NONE, numberOf(b.shelf));
        checkOrderAndRoom();
        moves = null;
        return at;
    }

    int gone(int book) {
        if (!within(book, 0, books.size() - 1)) {
            return NONE;
        }
        Book b = books.remove(book);
        write(3, book, b.width, numberOf(b.shelf), NONE);
        moves = null;
        return numberOf(b.shelf);
    }

    boolean limit(int to) {
        if (!within(to, 40, 400) || to == limit) {
            return false;
        }
        limit = to;
        return true;
    }

    int count(int what) {
        int sum = 0;
        switch (what) {
            case 0: return shelves.size();
            case 1: return growth.size();
            case 2: return books.size();
            case 3:
                for (Book b : books) {
                    sum += b.width;
                }
                return sum;
            case 4:
                for (Shelf s : shelves) {
                    sum += s.kind == 0 ? s.length : 0;
                }
                return sum;
            case 5: return limit;
            case 6: return moves == null ? 0 : moves.size();
            case 7: return moves == null ? 0 : done;
            case 8: return moves == null ? NONE : planY;
            case 9: return log.size();
            case 10: return handledAll;
            default: return NONE;
        }
    }

    int on(int shelf, int what) {
        if (!within(shelf, 0, shelves.size() - 1)) {
            throw new NoSuchElementException();
        }
        Shelf s = shelves.get(shelf);
        List<Integer> there = new ArrayList<>();
        for (int i = 0; i < books.size(); i++) {
            if (books.get(i).shelf == s) {
                there.add(i);
            }
        }
        switch (what) {
            case 0: return s.length;
            case 1: return s.kind;
            case 2: return load(s);
            case 3: return s.length - load(s);
            case 4: return rate(s);
            case 5: return years(s);
            case 6: return there.isEmpty() ? NONE : there.get(0);
            case 7: return there.size();
            default: throw new NoSuchElementException();
        }
    }

    int in(int group, int what) {
        if (!within(group, 0, growth.size() - 1)) {
            throw new NoSuchElementException();
        }
        List<Integer> there = new ArrayList<>();
        List<Shelf> stood = new ArrayList<>();
        int widths = 0;
        for (int i = 0; i < books.size(); i++) {
            Book b = books.get(i);
            if (b.group == group) {
                there.add(i);
                widths += b.width;
                if (!stood.contains(b.shelf)) {
                    stood.add(b.shelf);
                }
            }
        }
        switch (what) {
            case 0: return growth.get(group);
            case 1: return there.size();
            case 2: return widths;
            case 3: return there.isEmpty() ? NONE : there.get(0);
            case 4: return stood.size();
            default: throw new NoSuchElementException();
        }
    }

    int of(int book, int what) {
        if (!within(book, 0, books.size() - 1)) {
            throw new NoSuchElementException();
        }
        Book b = books.get(book);
        switch (what) {
            case 0: return b.group;
            case 1: return b.width;
            case 2: return need(b);
            case 3: return numberOf(b.shelf);
            case 4:
                int ahead = 0;
                for (int i = 0; i < book; i++) {
                    ahead += books.get(i).shelf == b.shelf ? books.get(i).width : 0;
                }
                return ahead;
            case 5: return b.handled;
            case 6: return moves == null ? NONE : shelfByCuts(planCuts, book);
            default: throw new NoSuchElementException();
        }
    }

    int lasts() {
        int least = 999;
        for (Book b : books) {
            least = Math.min(least, years(b.shelf));
        }
        return least;
    }

    int cut(int y, int shelf) {
        if (!within(y, 0, 999) || !within(shelf, 0, shelves.size() - 1)) {
            return NONE;
        }
        int[] cuts = cuts(y).bestCuts;
        return cuts == null ? NONE : cuts[shelf];
    }

    int price(int y, int what) {
        if (!within(y, 0, 999) || !within(what, 0, 2)) {
            return NONE;
        }
        int[] price = cuts(y).bestPrice;
        return price == null ? NONE : price[what];
    }

    int best(boolean open) {
        int best = NONE;
        for (int y = 0; y <= 999; y++) {
            if (!packs(books, y, !open)) {
                return best;
            }
            best = y;
        }
        return best;
    }

    /** Whether there are any cuts at all: which numbers of books can stand on the shelves so far. */
    boolean packs(List<Book> row, int y, boolean spareToo) {
        boolean[] can = new boolean[row.size() + 1];
        can[0] = true;
        for (Shelf s : shelves) {
            boolean[] next = can.clone();
            boolean may = s.kind == 0 || s.kind == 1 && spareToo;
            for (int i = 0; may && i < row.size(); i++) {
                int used = 0;
                for (int j = i; can[i] && j < row.size(); j++) {
                    used += row.get(j).width + (y == 0 ? 0 : y * need(row.get(j)));
                    if (used > s.length) {
                        break;
                    }
                    next[j + 1] = true;
                }
            }
            can = next;
        }
        return can[row.size()];
    }

    int tight() {
        // Without prices the first cut that the search meets has most books on the left.
        List<Book> strangers = new ArrayList<>();
        for (Book b : books) {
            strangers.add(fresh(b.group, b.width));
        }
        int[] cuts = new Search(strangers, 0, false).run().bestCuts;
        return cuts == null || books.isEmpty() ? NONE : shelfByCuts(cuts, books.size() - 1);
    }

    int more(int group, int width) {
        if (!within(group, 0, growth.size() - 1) || !within(width, 1, 40)) {
            return NONE;
        }
        List<Book> row = books;
        int came = 0;
        while (row.size() < 60) {
            row = rowWith(fresh(group, width), row);
            if (!packs(row, 0, true)) {
                break;
            }
            came++;
        }
        return came;
    }

    int plan(int y) {
        if (!within(y, 0, 999)) {
            return NONE;
        }
        int[] cuts = cuts(y).bestCuts;
        if (cuts == null) {
            return NONE;
        }
        moves = movesTo(books, cuts);
        done = 0;
        planY = y;
        planCuts = cuts;
        int all = moves.size();
        if (all == 0) {
            moves = null;
        }
        return all;
    }

    int drop() {
        if (moves == null) {
            return NONE;
        }
        int undone = moves.size() - done;
        moves = null;
        return undone;
    }

    int move() {
        if (moves == null) {
            return NONE;
        }
        Move m = moves.get(done);
        carry(m);
        done++;
        if (done == moves.size()) {
            moves = null;
        }
        return m.number;
    }

    int day() {
        if (moves == null) {
            return NONE;
        }
        int sum = 0;
        int made = 0;
        while (moves != null && sum + moves.get(done).book.width <= limit) {
            sum += moves.get(done).book.width;
            move();
            made++;
        }
        return made;
    }

    /** The day of each move, were it so from a first one on. */
    List<Integer> daysFrom(int first, int byLimit) {
        List<Integer> days = new ArrayList<>();
        int day = 0;
        int sum = 0;
        for (Move m : moves.subList(first, moves.size())) {
            if (sum + m.book.width > byLimit) {
                day++;
                sum = 0;
            }
            sum += m.book.width;
            days.add(day);
        }
        return days;
    }

    List<Integer> tripsFrom(int first) {
        List<Integer> trips = new ArrayList<>();
        int trip = -1;
        Move before = null;
        for (Move m : moves.subList(first, moves.size())) {
            if (before == null || before.from != m.from || before.to != m.to) {
                trip++;
            }
            trips.add(trip);
            before = m;
        }
        return trips;
    }

    static int last(List<Integer> row) {
        return row.get(row.size() - 1);
    }

    int planned(int k, int what) {
        if (moves == null || !within(k, 0, moves.size() - 1)) {
            return NONE;
        }
        Move m = moves.get(k);
        switch (what) {
            case 0: return m.number;
            case 1: return m.from;
            case 2: return m.to;
            case 3: return m.right() ? 1 : 2;
            case 4: return daysFrom(0, limit).get(k);
            case 5: return tripsFrom(0).get(k);
            case 6:
                int taken = 0;
                for (Move o : moves.subList(0, k)) {
                    taken += o.from == m.to ? 1 : 0;
                }
                return taken;
            default: return NONE;
        }
    }

    int left(int what) {
        if (moves == null) {
            return NONE;
        }
        int widths = 0;
        int right = 0;
        for (Move m : moves.subList(done, moves.size())) {
            widths += m.book.width;
            right += m.right() ? 1 : 0;
        }
        switch (what) {
            case 0: return moves.size() - done;
            case 1: return widths;
            case 2: return last(daysFrom(done, limit)) + 1;
            case 3: return last(tripsFrom(done)) + 1;
            case 4: return right;
            default: return NONE;
        }
    }

    int enough(int days) {
        for (int l = 40; moves != null && l <= 400; l++) {
            if (last(daysFrom(done, l)) + 1 <= days) {
                return l;
            }
        }
        return NONE;
    }

    int log(int k, int what) {
        return within(k, 0, log.size() - 1) && within(what, 0, 4) ? log.get(k)[what] : NONE;
    }
}
