import java.util.function.Supplier;
import java.util.function.ToLongFunction;

/**
 * Each call that can be refused, for each reason that the document gives: it answers NONE, and an object
 * that had it is afterwards, and after all that can still be done, as its twin that had it not.
 */
public final class RefusalTest {
    private static final int NONE = TombstoneSites.NONE;
    private static final int LEAST = Integer.MIN_VALUE;
    private static final int MOST = Integer.MAX_VALUE;
    private static final int[] NO_SITES = {-1, -2, 3, 4, 6, 256, LEAST, MOST};

    private final Sentences reasons = new Sentences("RefusalTest");

    public static void main(String[] args) {
        RefusalTest test = new RefusalTest();
        test.insert();
        test.erase();
        test.deliver();
        test.deliverOfNothing();
        test.deliverAgain();
        test.arrive();
        test.arriveOfNothing();
        test.sync();
        test.code();
        test.executed();
        test.place();
        test.at();
        test.siteAlone();
        test.stable();
        test.cell();
        test.reasons.finish();
    }

    private void insert() {
        for (int s : NO_SITES) {
            refused("3: no such site: " + s, 3, x -> x.insert(s, 0, 'z'));
        }
        refused("3: no such site: 2 of two", 2, x -> x.insert(2, 0, 'z'));
        for (int i : new int[] {-1, -2, LEAST}) {
            refused("3: i is less than 0: " + i, 3, x -> x.insert(0, i, 'z'));
        }
        for (int i : new int[] {3, 4, 18, 19, MOST}) {
            refused("3: i is more than how many are visible: " + i, 3, x -> x.insert(0, i, 'z'));
        }
        refused("3: i is how many cells there are, one invisible", 2, x -> x.insert(0, 3, 'z'));
        refused("3: i is 1 where there is nothing", () -> new CountedSites(3), x -> x.insert(0, 1, 'z'));
        for (int c : new int[] {0, -1, -97, -255, LEAST}) {
            refused("3: c is less than 1: " + c, 3, x -> x.insert(0, 0, c));
        }
        for (int c : new int[] {256, 257, 353, 65633, MOST}) {
            refused("3: c is more than 255: " + c, 3, x -> x.insert(0, 0, c));
        }
        for (int s = 0; s < 3; s++) {
            int site = s;
            refused("3: it has made 6: site " + s, () -> Scenes.full(3), x -> x.insert(site, 0, 'z'));
        }
        refused("3: it has made 6: eighteen cells", Scenes::eighteenCells, x -> x.insert(0, 18, 'z'));
        refused("3: i is more than eighteen", Scenes::eighteenCells, x -> x.insert(0, 19, 'z'));
        refused("3: it has made 6: of two", () -> Scenes.full(2), x -> x.insert(1, 2, 'z'));
        refused("3: all reasons at once", () -> Scenes.full(2), x -> x.insert(2, -1, 0));
    }

    private void erase() {
        for (int s : NO_SITES) {
            refused("4: no such site: " + s, 3, x -> x.erase(s, 0));
        }
        refused("4: no such site: 2 of two", 2, x -> x.erase(2, 0));
        for (int i : new int[] {-1, -2, LEAST}) {
            refused("4: i is less than 0: " + i, 3, x -> x.erase(0, i));
        }
        for (int i : new int[] {2, 3, 4, 18, MOST}) {
            refused("4: i is more than how many are visible less 1: " + i, 3, x -> x.erase(0, i));
        }
        refused("4: nothing is there", () -> new CountedSites(3), x -> x.erase(0, 0));
        refused("4: nothing is visible", RefusalTest::allInvisible, x -> x.erase(0, 0));
        refused("4: nothing is visible, nor behind it", RefusalTest::allInvisible, x -> x.erase(0, 1));
        for (int s = 0; s < 3; s++) {
            int site = s;
            refused("4: it has made 6: site " + s, () -> Scenes.full(3), x -> x.erase(site, 0));
        }
        refused("4: i is more than eighteen less 1", Scenes::eighteenCells, x -> x.erase(0, 18));
        refused("4: it has made 6: of two", () -> Scenes.full(2), x -> x.erase(1, 1));
    }

    private void deliver() {
        for (int s : NO_SITES) {
            refused("5: no site to: " + s, 3, x -> x.deliver(s, 0, 2));
            refused("5: no site from: " + s, 3, x -> x.deliver(1, s, 0));
        }
        refused("5: no site to: 2 of two", 2, x -> x.deliver(2, 0, 0));
        refused("5: no site from: 2 of two", 2, x -> x.deliver(0, 2, 0));
        for (int s = 0; s < 3; s++) {
            int site = s;
            refused("5: they are the same: " + s, 3, x -> x.deliver(site, site, 0));
        }
        refused("5: they are the same, and there is no such operation", 3, x -> x.deliver(2, 2, 1));
        refused("5: neither site", 3, x -> x.deliver(-1, -1, 0));
        refused("5: no site from, though 6 more would be site 0's first", 3, x -> x.deliver(2, -1, 6));
    }

    private void deliverOfNothing() {
        for (int k : new int[] {4, 5, 6, 7, 12, 18, MOST}) {
            refused("5: no such operation: " + k, 3, x -> x.deliver(1, 0, k));
        }
        for (int k : new int[] {-1, -6, LEAST}) {
            refused("5: no such operation: " + k, 3, x -> x.deliver(2, 1, k));
        }
        for (int k : new int[] {-1, 6, 7, 12}) {
            refused("5: no such operation though all made 6: " + k, () -> Scenes.full(3), x -> x.deliver(2, 0, k));
        }
        refused("5: a site that made none", () -> Scenes.typed(3, "abc"), x -> x.deliver(0, 1, 0));
        refused("5: nothing was made", () -> new CountedSites(2), x -> x.deliver(0, 1, 0));
    }

    private void deliverAgain() {
        refused("5: it has arrived there before, the first", 3, x -> x.deliver(1, 0, 0));
        refused("5: it has arrived there before, the last executed", 3, x -> x.deliver(1, 0, 1));
        refused("5: it has arrived there before, and waits", 3, x -> x.deliver(1, 0, 3));
        refused("5: it has arrived there before by arrive", RefusalTest::byArrive, x -> x.deliver(2, 0, 0));
        refused("5: it has arrived by arrive and waits", RefusalTest::byArrive, x -> x.deliver(2, 0, 2));
        refused("5: it has arrived there before by sync", () -> Scenes.shared(3, "abc"), x -> x.deliver(2, 0, 2));
        refused("5: it has waited and was executed then", RefusalTest::freed, x -> x.deliver(1, 0, 1));
    }

    private void arrive() {
        for (int s : NO_SITES) {
            refused("6: no site to: " + s, 3, x -> x.arrive(s, 64 + 8192 * 'a'));
        }
        refused("6: no site to: 2 of two", 2, x -> x.arrive(2, 64 + 8192 * 'a'));
        refused("6: it is the site's own: 0", 3, x -> x.arrive(0, 64 + 8192 * 'a'));
        refused("6: it is the site's own: 1", 3, x -> x.arrive(1, 65 + 2 * 128 + 8192 * 'd' + 2 * 2097152));
        refused("6: it is the site's own: 2", 3, x -> x.arrive(2, 66 + 8192 * 'e'));
        refused("6: it has arrived there before", 3, x -> x.arrive(1, 64 + 8192 * 'a'));
        refused("6: it has arrived there before, and waits", 3, x -> x.arrive(1, 12 + 128 + 3 * 2097152));
        refused("6: it has arrived by arrive", RefusalTest::byArrive, x -> x.arrive(2, 64 + 8192 * 'a'));
        refused("6: it has arrived by sync", () -> Scenes.shared(3, "a"), x -> x.arrive(2, 64 + 8192 * 'a'));
        taken("6: but at another site it is taken", 3, x -> x.arrive(2, 64 + 8192 * 'a'), 1);
        taken("6: and so is one that waits elsewhere", 3, x -> x.arrive(2, 12 + 128 + 3 * 2097152), 0);
    }

    /** To sites where nothing has arrived, so that no other reason can hide that a wrong code was taken. */
    private void arriveOfNothing() {
        long third = 8 + 64 + 2 * 128 + 8192 * 'c' + 2 * 2097152;
        long first = 65 + 2 * 128 + 8192 * 'd' + 2 * 2097152;
        taken("6: this code has an operation", 3, x -> x.arrive(2, third), 0);
        taken("6: this one too", 3, x -> x.arrive(0, first), 1);
        for (int bit = 0; bit < 64; bit++) {
            long turned = 1L << bit;
            refused("6: no operation has this code: bit " + bit, 3, x -> x.arrive(2, third ^ turned));
            refused("6: no operation has this code: other bit " + bit, 3, x -> x.arrive(0, first ^ turned));
        }
        for (long code : new long[] {0, -1, 3, 64, LEAST, MOST, Long.MIN_VALUE, Long.MAX_VALUE, -third, -first}) {
            refused("6: no operation has this code: 2, " + code, 3, x -> x.arrive(2, code));
            refused("6: no operation has this code: 0, " + code, 3, x -> x.arrive(0, code));
        }
        refused("6: the code of one that is not made yet", 3, x -> x.arrive(2, 16 + 64 + 8192 * 'z' + 4 * 2097152));
        refused("6: the code of another character", 3, x -> x.arrive(2, 64 + 8192 * 'b'));
        refused("6: the code of another site", 3, x -> x.arrive(2, 65 + 8192 * 'a'));
        refused("6: NONE, the code of none", 3, x -> x.arrive(2, x.code(0, 5)));
        refused("6: nothing was made", () -> new CountedSites(3), x -> x.arrive(1, 64 + 8192 * 'a'));
        refused("6: a third site's in two", 2, x -> x.arrive(0, 66 + 8192 * 'e'));
    }

    private void sync() {
        for (int s : NO_SITES) {
            refused("7: no site to: " + s, 3, x -> x.sync(s, 0));
            refused("7: no site from: " + s, 3, x -> x.sync(2, s));
        }
        refused("7: no site to: 2 of two", 2, x -> x.sync(2, 0));
        refused("7: no site from: 2 of two", 2, x -> x.sync(0, 2));
        for (int s = 0; s < 3; s++) {
            int site = s;
            refused("7: they are the same: " + s, 3, x -> x.sync(site, site));
        }
        refused("7: they are the same, and none", 3, x -> x.sync(3, 3));
    }

    private void code() {
        for (int s : NO_SITES) {
            refused("8: no such site: " + s, 3, x -> x.code(s, 0));
        }
        refused("8: no such site: 2 of two", 2, x -> x.code(2, 0));
        for (int k : new int[] {4, 5, 6, 7, 12, MOST, -1, -6, LEAST}) {
            refused("8: there is none: " + k, 3, x -> x.code(0, k));
        }
        for (int k : new int[] {-1, 6, 7, 12, -6}) {
            refused("8: there is none though all made 6: " + k, () -> Scenes.full(3), x -> x.code(1, k));
        }
        refused("8: no such site, though 6 more would be site 0's first", 3, x -> x.code(-1, 6));
        refused("8: nothing was made", () -> new CountedSites(2), x -> x.code(0, 0));
    }

    private void executed() {
        for (int s : NO_SITES) {
            refused("9: no such site: " + s, 3, x -> x.executed(s, 0));
            refused("9: no such site of: " + s, 3, x -> x.executed(0, s));
            refused("9: neither: " + s, 3, x -> x.executed(s, s));
        }
        refused("9: no such site: 2 of two", 2, x -> x.executed(2, 0));
        refused("9: no such site of: 2 of two", 2, x -> x.executed(0, 2));
    }

    private void place() {
        for (int s : NO_SITES) {
            refused("11: no such site: " + s, 3, x -> x.place(s, 0, 0));
            refused("11: no such site of: " + s, 3, x -> x.place(0, s, 0));
        }
        refused("11: no such site: 2 of two", 2, x -> x.place(2, 0, 0));
        refused("11: no such site of: 2 of two", 2, x -> x.place(0, 2, 0));
        for (int k : new int[] {4, 5, 6, 7, 12, MOST, -1, -6, LEAST}) {
            refused("11: no such operation: " + k, 3, x -> x.place(0, 0, k));
        }
        for (int k : new int[] {-1, 6, 7, -6}) {
            refused("11: no such operation though all made 6: " + k, () -> Scenes.full(3), x -> x.place(1, 1, k));
        }
        refused("11: it was not executed: it waits", 3, x -> x.place(1, 0, 3));
        refused("11: it was not executed: it has not arrived", 3, x -> x.place(1, 0, 2));
        refused("11: it was not executed: nothing has arrived", 3, x -> x.place(2, 0, 0));
        refused("11: no such site of, though 6 more would be site 0's first", 3, x -> x.place(0, -1, 6));
        refused("11: nothing was made", () -> new CountedSites(2), x -> x.place(0, 0, 0));
    }

    private void at() {
        for (int s : NO_SITES) {
            refused("13: no such site: " + s, 3, x -> x.at(s, 0));
        }
        refused("13: no such site: 2 of two", 2, x -> x.at(2, 0));
        for (int i : new int[] {-1, -2, LEAST}) {
            refused("13: i is less than 0: " + i, 3, x -> x.at(0, i));
        }
        for (int i : new int[] {2, 3, 18, MOST}) {
            refused("13: there is none: " + i, 3, x -> x.at(0, i));
        }
        refused("13: there is none behind eighteen", Scenes::eighteenCells, x -> x.at(0, 18));
        refused("13: nothing is there", () -> new CountedSites(3), x -> x.at(0, 0));
        refused("13: nothing is visible", RefusalTest::allInvisible, x -> x.at(0, 0));
    }

    private void siteAlone() {
        for (int s : NO_SITES) {
            refused("10: there is none: " + s, 3, x -> x.waiting(s));
            refused("12: no such site: " + s, 3, x -> x.length(s));
            refused("14: no such site: " + s, 3, x -> x.cells(s));
        }
        refused("10: there is none: 2 of two", 2, x -> x.waiting(2));
        refused("12: no such site: 2 of two", 2, x -> x.length(2));
        refused("14: no such site: 2 of two", 2, x -> x.cells(2));
    }

    private void stable() {
        for (int s : NO_SITES) {
            refused("16: no such site: " + s, 3, x -> x.stable(s, 0));
            refused("16: no such site of: " + s, 3, x -> x.stable(0, s));
        }
        refused("16: no such site: 2 of two", 2, x -> x.stable(2, 0));
        refused("16: no such site of: 2 of two", 2, x -> x.stable(0, 2));
    }

    /** cell has no refusal, but an answer for what there is not. */
    private void cell() {
        for (int s : NO_SITES) {
            answers("15: no cell of no site: " + s, () -> Scenes.middle(3), x -> x.cell(s, 0), 0);
        }
        for (int i : new int[] {-1, 3, 18, LEAST, MOST}) {
            answers("15: no such cell: " + i, () -> Scenes.middle(3), x -> x.cell(0, i), 0);
        }
    }

    private static CountedSites allInvisible() {
        CountedSites x = Scenes.typed(3, "ab");
        x.erase(0, 1);
        x.erase(0, 0);
        return x;
    }

    private static CountedSites byArrive() {
        CountedSites x = Scenes.typed(3, "abc");
        x.arrive(2, x.code(0, 0));
        x.arrive(2, x.code(0, 2));
        return x;
    }

    private static CountedSites freed() {
        CountedSites x = Scenes.typed(3, "ab");
        x.deliver(1, 0, 1);
        x.deliver(1, 0, 0);
        return x;
    }

    private void refused(String reason, int sites, ToLongFunction<CountedSites> call) {
        refused(reason, () -> Scenes.middle(sites), call);
    }

    private void refused(String reason, Supplier<CountedSites> scene, ToLongFunction<CountedSites> call) {
        answers(reason, scene, call, NONE);
    }

    /** So that a refusal of the like is known to have had the reason that it names. */
    private void taken(String what, int sites, ToLongFunction<CountedSites> call, long want) {
        reasons.holds(what, due -> due.is("the call", call.applyAsLong(Scenes.middle(sites)), want));
    }

    private void answers(String reason, Supplier<CountedSites> scene, ToLongFunction<CountedSites> call, long want) {
        reasons.holds(reason, due -> {
            CountedSites asked = scene.get();
            CountedSites twin = scene.get();
            due.is("the call", call.applyAsLong(asked), want);
            due.same("the state after it", Dump.of(asked), Dump.of(twin));
            due.same("what comes after it", allThatIsLeft(asked), allThatIsLeft(twin));
            due.same("the state at the end", Dump.of(asked), Dump.of(twin));
        });
    }

    /** Brings out what no question tells: what has arrived, and how many each site can still make. */
    private static String allThatIsLeft(CountedSites x) {
        StringBuilder answers = new StringBuilder();
        int sites = x.sites();
        for (int to = 0; to < sites; to++) {
            for (int from = 0; from < sites; from++) {
                for (int k = 5; k >= 0; k--) {
                    answers.append(x.deliver(to, from, k)).append(' ');
                }
            }
        }
        for (int s = 0; s < sites; s++) {
            for (int k = 0; k < 7; k++) {
                answers.append(x.insert(s, 0, 'A' + k)).append(' ');
            }
            answers.append(x.sync((s + 1) % sites, s)).append(' ');
        }
        return answers.toString();
    }
}
