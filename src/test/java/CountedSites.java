/** The class under test; holds a test to the 512 calls on one object that the document promises answers for. */
final class CountedSites {
    static final int MOST_CALLS = 512;

    private final TombstoneSites x;
    private int calls = 0;

    CountedSites(int sites) {
        x = new TombstoneSites(sites);
    }

    /** How many calls the object has had. */
    int calls() {
        return calls;
    }

    int sites() {
        return counted().sites();
    }

    int insert(int site, int i, int c) {
        return counted().insert(site, i, c);
    }

    int erase(int site, int i) {
        return counted().erase(site, i);
    }

    int deliver(int to, int from, int k) {
        return counted().deliver(to, from, k);
    }

    int arrive(int to, long code) {
        return counted().arrive(to, code);
    }

    int sync(int to, int from) {
        return counted().sync(to, from);
    }

    long code(int site, int k) {
        return counted().code(site, k);
    }

    int executed(int site, int of) {
        return counted().executed(site, of);
    }

    int waiting(int site) {
        return counted().waiting(site);
    }

    int place(int site, int of, int k) {
        return counted().place(site, of, k);
    }

    int length(int site) {
        return counted().length(site);
    }

    int at(int site, int i) {
        return counted().at(site, i);
    }

    int cells(int site) {
        return counted().cells(site);
    }

    int cell(int site, int i) {
        return counted().cell(site, i);
    }

    int stable(int site, int of) {
        return counted().stable(site, of);
    }

    private TombstoneSites counted() {
        calls++;
        if (calls > MOST_CALLS) {
            throw new IllegalStateException("a test asks one object more than " + MOST_CALLS + " calls");
        }
        return x;
    }
}
