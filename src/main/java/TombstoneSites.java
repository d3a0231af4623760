import java.util.Arrays;

/**
 * Two or three sites edit one text, each its own copy, at once and without a server: erased
 * characters stay as invisible cells, and an operation that comes from another site is moved past
 * all that was done here without its maker's knowing, so that copies which have seen the same
 * operations are the same.
 */
public final class TombstoneSites {
    /** There is no such site, place, or operation, or it cannot be. */
    public static final int NONE = -1;

    private static final int MOST_MADE = 6;
    private static final int MOST_OPERATIONS = 18;
    private static final int GREATEST_CHARACTER = 255;
    private static final int NO_CHARACTER = 0;

    private final int siteCount;
    private final History history;
    private final Copy[] copies;

    public TombstoneSites(int sites) {
        siteCount = sites == 3 ? 3 : 2;
        history = new History(siteCount);
        copies = new Copy[siteCount];
        for (int s = 0; s < siteCount; s++) {
            copies[s] = new Copy(s);
        }
    }

    public int sites() {
        return siteCount;
    }

    public int insert(int site, int i, int c) {
        if (!isSite(site) || c < 1 || c > GREATEST_CHARACTER) {
            return NONE;
        }
        return make(copies[site], copies[site].positionForInsert(i), c);
    }

    public int erase(int site, int i) {
        if (!isSite(site)) {
            return NONE;
        }
        return make(copies[site], copies[site].cellOfVisible(i), NO_CHARACTER);
    }

    public int deliver(int to, int from, int k) {
        if (!isSite(to)) {
            return NONE;
        }
        return receive(copies[to], history.find(from, k));
    }

    public int arrive(int to, long code) {
        if (!isSite(to)) {
            return NONE;
        }
        return receive(copies[to], history.findByCode(code));
    }

    public int sync(int to, int from) {
        if (!isSite(to) || !isSite(from) || to == from) {
            return NONE;
        }
        int done = 0;
        for (int s = 0; s < siteCount; s++) {
            int known = Vectors.count(copies[from].vector, s);
            for (int k = 0; k < known; k++) {
                // Own operations and those that have arrived are refused, and count for nothing.
                done += Math.max(0, receive(copies[to], history.find(s, k)));
            }
        }
        return done;
    }

    public long code(int site, int k) {
        Operation x = history.find(site, k);
        return x == null ? NONE : x.toCode();
    }

    public int executed(int site, int of) {
        if (!isSite(site) || !isSite(of)) {
            return NONE;
        }
        return Vectors.count(copies[site].vector, of);
    }

    public int waiting(int site) {
        if (!isSite(site)) {
            return NONE;
        }
        return copies[site].arrivedCount - copies[site].executedOfOthers;
    }

    public int place(int site, int of, int k) {
        Operation x = history.find(of, k);
        if (!isSite(site) || x == null) {
            return NONE;
        }
        return copies[site].places[x.index()];
    }

    public int length(int site) {
        if (!isSite(site)) {
            return NONE;
        }
        return copies[site].visibleCount();
    }

    public int at(int site, int i) {
        if (!isSite(site)) {
            return NONE;
        }
        int p = copies[site].cellOfVisible(i);
        return p == NONE ? NONE : copies[site].row[p];
    }

    public int cells(int site) {
        if (!isSite(site)) {
            return NONE;
        }
        return copies[site].rowLength;
    }

    public int cell(int site, int i) {
        if (!isSite(site) || i < 0 || i >= copies[site].rowLength) {
            return 0;
        }
        return copies[site].row[i];
    }

    public int stable(int site, int of) {
        if (!isSite(site) || !isSite(of)) {
            return NONE;
        }
        int vector = copies[site].vector;
        int least = Vectors.count(vector, of);
        for (int j = 0; j < siteCount; j++) {
            if (j != site) {
                least = Math.min(least, toldBy(history.last(vector, j), of));
            }
        }
        return least;
    }

    private boolean isSite(int site) {
        return site >= 0 && site < siteCount;
    }

    private int make(Copy copy, int position, int character) {
        int number = Vectors.count(copy.vector, copy.site);
        if (position == NONE || number >= MOST_MADE) {
            return NONE;
        }
        Operation x = new Operation(copy.site, number, character, position, copy.vector);
        history.add(x);
        copy.execute(x, position);
        return number;
    }

    /** Nothing that waits was ready before an arrival, so what has just arrived comes first. */
    private int receive(Copy copy, Operation x) {
        if (x == null || x.site == copy.site || copy.arrived[x.index()]) {
            return NONE;
        }
        copy.noteArrival(x);
        int done = 0;
        Operation ready = firstReady(copy);
        while (ready != null && done < MOST_OPERATIONS) {
            copy.execute(ready, history.placeFor(ready, copy.vector, MOST_OPERATIONS));
            done++;
            ready = firstReady(copy);
        }
        return done;
    }

    private Operation firstReady(Copy copy) {
        for (int s = 0; s < siteCount; s++) {
            Operation x = history.find(s, Vectors.count(copy.vector, s));
            if (x != null && copy.arrived[x.index()] && Vectors.covers(copy.vector, x.context)) {
                return x;
            }
        }
        return null;
    }

    /** What a site's last operation tells of how many operations of another its maker had executed. */
    private static int toldBy(Operation last, int of) {
        if (last == null) {
            return 0;
        }
        int before = Vectors.count(last.context, of);
        return last.site == of ? before + 1 : before;
    }

    /** A vector is held in one int, three bits a site, so that it can be an index and costs no object. */
    private static final class Vectors {
        private static final int BITS = 3;
        private static final int MASK = 7;
        private static final int MOST_SITES = 3;

        private Vectors() {
        }

        static int count(int vector, int site) {
            return (vector >> (BITS * site)) & MASK;
        }

        static int withOneMore(int vector, int site) {
            return vector + (1 << (BITS * site));
        }

        static int withOneLess(int vector, int site) {
            return vector - (1 << (BITS * site));
        }

        static boolean covers(int vector, int context) {
            for (int s = 0; s < MOST_SITES; s++) {
                if (count(vector, s) < count(context, s)) {
                    return false;
                }
            }
            return true;
        }

        /** How many vectors there can be for so many sites. */
        static int howMany(int sites) {
            return 1 << (BITS * sites);
        }
    }

    private static final class Operation {
        private final int site;
        private final int number;
        private final int character;
        private final int position;
        private final int context;

        Operation(int site, int number, int character, int position, int context) {
            this.site = site;
            this.number = number;
            this.character = character;
            this.position = position;
            this.context = context;
        }

        boolean isInsert() {
            return character != NO_CHARACTER;
        }

        int index() {
            return site * MOST_MADE + number;
        }

        long toCode() {
            long sum = site + 4 * number + (isInsert() ? 64 : 0);
            sum += ((long) position << 7) + ((long) character << 13);
            sum += (long) Vectors.count(context, 0) << 21;
            sum += (long) Vectors.count(context, 1) << 25;
            sum += (long) Vectors.count(context, 2) << 29;
            return sum;
        }

        /** Where place p of this operation comes to be, past operation y at place q. */
        int movedPast(int p, Operation y, int q) {
            if (!y.isInsert() || p < q) {
                return p;
            }
            return p == q && isInsert() && site < y.site ? p : p + 1;
        }
    }

    /** All operations that were made, and their places for the vectors that were asked for. */
    private static final class History {
        private final int siteCount;
        private final Operation[] made;
        // A vector says which operation of a site is its next: with the site it stands for both
        // the operation and the vector, and the place that was found once never changes.
        private final int[] knownPlaces;

        History(int siteCount) {
            this.siteCount = siteCount;
            made = new Operation[siteCount * MOST_MADE];
            knownPlaces = new int[siteCount * Vectors.howMany(siteCount)];
            Arrays.fill(knownPlaces, NONE);
        }

        void add(Operation x) {
            made[x.index()] = x;
        }

        Operation find(int site, int number) {
            if (site < 0 || site >= siteCount || number < 0 || number >= MOST_MADE) {
                return null;
            }
            return made[site * MOST_MADE + number];
        }

        Operation findByCode(long code) {
            Operation x = find((int) (code & 3), (int) ((code >> 2) & 15));
            return x != null && x.toCode() == code ? x : null;
        }

        /** The last operation of a site that a vector has, or null. */
        Operation last(int vector, int site) {
            return find(site, Vectors.count(vector, site) - 1);
        }

        /** Each level has one operation less in its vector, so the depth never runs out. */
        private int placeFor(Operation x, int vector, int depth) {
            if (vector == x.context || depth <= 0) {
                return x.position;
            }
            int key = x.site * Vectors.howMany(siteCount) + vector;
            if (knownPlaces[key] != NONE) {
                return knownPlaces[key];
            }
            Operation y = latestUnknownTo(x, vector);
            if (y == null) {
                return x.position;
            }
            int without = Vectors.withOneLess(vector, y.site);
            int p = placeFor(x, without, depth - 1);
            int q = placeFor(y, without, depth - 1);
            knownPlaces[key] = x.movedPast(p, y, q);
            return knownPlaces[key];
        }

        /** An operation that the vector has, unknown to x's maker and to all else that it has. */
        private Operation latestUnknownTo(Operation x, int vector) {
            for (int t = 0; t < siteCount; t++) {
                Operation y = last(vector, t);
                if (y != null && !isIn(y, x.context) && !isInContextOfAny(y, vector)) {
                    return y;
                }
            }
            return null;
        }

        /** A site's contexts only grow, so the last operation of each site tells for all of them. */
        private boolean isInContextOfAny(Operation y, int vector) {
            for (int s = 0; s < siteCount; s++) {
                Operation z = last(vector, s);
                if (z != null && isIn(y, z.context)) {
                    return true;
                }
            }
            return false;
        }

        private static boolean isIn(Operation y, int context) {
            return Vectors.count(context, y.site) > y.number;
        }
    }

    /** One site's cells, and what has arrived and was executed there. */
    private static final class Copy {
        private final int site;
        // The characters of the cells, negative where invisible.
        private final int[] row = new int[MOST_OPERATIONS];
        private int rowLength;
        private int vector;
        private final boolean[] arrived = new boolean[MOST_OPERATIONS];
        private int arrivedCount;
        private int executedOfOthers;
        private final int[] places = new int[MOST_OPERATIONS];

        Copy(int site) {
            this.site = site;
            Arrays.fill(places, NONE);
        }

        void noteArrival(Operation x) {
            arrived[x.index()] = true;
            arrivedCount++;
        }

        void execute(Operation x, int p) {
            if (x.isInsert()) {
                putCell(p, x.character);
            } else {
                hideCell(p);
            }
            places[x.index()] = p;
            vector = Vectors.withOneMore(vector, x.site);
            if (x.site != site) {
                executedOfOthers++;
            }
        }

        int visibleCount() {
            int count = 0;
            for (int p = 0; p < rowLength; p++) {
                if (row[p] > 0) {
                    count++;
                }
            }
            return count;
        }

        /** The cell that is the i-th visible one, or NONE. */
        int cellOfVisible(int i) {
            int seen = 0;
            for (int p = 0; p < rowLength; p++) {
                if (row[p] > 0) {
                    if (seen == i) {
                        return p;
                    }
                    seen++;
                }
            }
            return NONE;
        }

        int positionForInsert(int i) {
            return i == visibleCount() ? rowLength : cellOfVisible(i);
        }

        private void putCell(int p, int character) {
            if (p < 0 || p > rowLength || rowLength >= row.length) {
                return;
            }
            for (int j = rowLength; j > p; j--) {
                row[j] = row[j - 1];
            }
            row[p] = character;
            rowLength++;
        }

        private void hideCell(int p) {
            if (p >= 0 && p < rowLength && row[p] > 0) {
                row[p] = -row[p];
            }
        }
    }
}
