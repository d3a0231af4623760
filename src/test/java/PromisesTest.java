import java.util.function.IntSupplier;

/** Each promise of the document by hand: ordinary inputs, the edges that it names, wrong inputs. */
public final class PromisesTest {
    private static final int NONE = TombstoneSites.NONE;
    private static final int LEAST = Integer.MIN_VALUE;
    private static final int MOST = Integer.MAX_VALUE;

    private static Due due = new Due("promise 1");

    public static void main(String[] args) {
        boolean right = true;
        for (int promise = 1; promise <= 16; promise++) {
            due = new Due("promise " + promise);
            test(promise);
            right &= due.allRight();
        }
        System.out.println(right ? "PromisesTest: all answers are as due" : "PromisesTest: FAILED");
        if (!right) {
            System.exit(1);
        }
    }

    private static void test(int promise) {
        switch (promise) {
            case 1 -> newObject();
            case 2 -> sites();
            case 3 -> insert();
            case 4 -> erase();
            case 5 -> deliver();
            case 6 -> arrive();
            case 7 -> sync();
            case 8 -> code();
            case 9 -> executed();
            case 10 -> waiting();
            case 11 -> place();
            case 12 -> length();
            case 13 -> at();
            case 14 -> cells();
            case 15 -> cell();
            default -> stable();
        }
    }

    private static void newObject() {
        for (int sites : new int[] {3, 2, 1, 0, -3, 4, LEAST, MOST}) {
            TombstoneSites x = new TombstoneSites(sites);
            due.is("new of " + sites, x.sites(), sites == 3 ? 3 : 2);
            due.is("site 1 of " + sites, x.cells(1), 0);
            due.is("site 2 of " + sites, x.cells(2), sites == 3 ? 0 : NONE);
            due.is("site 3 of " + sites, x.cells(3), NONE);
            due.is("cell of a new object", x.cell(0, 0), 0);
            due.is("code of a new object", x.code(0, 0), NONE);
            due.is("sync of a new object", x.sync(0, 1), 0);
        }
    }

    private static void sites() {
        TombstoneSites x = typed(3, "abc");
        due.is("sites", x.sites(), 3);
        due.is("sites of two", typed(2, "abc").sites(), 2);
    }

    private static void insert() {
        TombstoneSites x = new TombstoneSites(2);
        due.is("the first", x.insert(0, 0, 'b'), 0);
        due.is("in front", x.insert(0, 0, 'a'), 1);
        due.is("behind all", x.insert(0, 2, 255), 2);
        due.is("least character", x.insert(0, 1, 1), 3);
        due.same("cells", Dump.cells(x, 0), "97 1 98 255");
        refused(x, "no site -1", () -> x.insert(-1, 0, 'a'));
        refused(x, "no site 2", () -> x.insert(2, 0, 'a'));
        refused(x, "i beyond", () -> x.insert(0, 5, 'a'));
        refused(x, "i below", () -> x.insert(0, -1, 'a'));
        refused(x, "i least", () -> x.insert(0, LEAST, 'a'));
        refused(x, "i most", () -> x.insert(0, MOST, 'a'));
        refused(x, "no character 0", () -> x.insert(0, 0, 0));
        refused(x, "no character 256", () -> x.insert(0, 0, 256));
        refused(x, "no character -97", () -> x.insert(0, 0, -97));
        due.is("after refusals", x.insert(0, 0, 'x'), 4);
        due.is("the sixth", x.insert(0, 0, 'y'), 5);
        refused(x, "the seventh", () -> x.insert(0, 0, 'z'));
        due.is("the other site's first", x.insert(1, 0, 'z'), 0);
        insertAmongInvisible();
    }

    /** The position is the visible cell itself, behind invisible ones; at the end, behind all. */
    private static void insertAmongInvisible() {
        TombstoneSites x = typed(2, "abc");
        x.sync(1, 0);
        x.erase(1, 2);
        x.erase(1, 0);
        x.insert(1, 0, 'x');
        due.same("in front of the first visible", Dump.cells(x, 1), "-97 120 98 -99");
        x.insert(1, 2, 'y');
        due.same("behind the last cell", Dump.cells(x, 1), "-97 120 98 -99 121");
        x.erase(1, 0);
        due.same("all but two are invisible", Dump.cells(x, 1), "-97 -120 98 -99 121");
        due.is("made at", x.place(1, 1, 3), 4);
    }

    private static void erase() {
        TombstoneSites x = typed(2, "abc");
        due.is("the middle", x.erase(0, 1), 3);
        due.same("cells", Dump.cells(x, 0), "97 -98 99");
        refused(x, "i is how many are visible", () -> x.erase(0, 2));
        refused(x, "i below", () -> x.erase(0, -1));
        refused(x, "i least", () -> x.erase(0, LEAST));
        refused(x, "i most", () -> x.erase(0, MOST));
        refused(x, "no site 2", () -> x.erase(2, 0));
        refused(x, "no site -1", () -> x.erase(-1, 0));
        refused(x, "empty site", () -> x.erase(1, 0));
        due.is("the last visible", x.erase(0, 1), 4);
        due.same("cells", Dump.cells(x, 0), "97 -98 -99");
        due.is("the sixth", x.erase(0, 0), 5);
        due.same("none visible", Dump.cells(x, 0), "-97 -98 -99");
        refused(x, "none left", () -> x.erase(0, 0));
        TombstoneSites full = typed(2, "abcdef");
        refused(full, "has made 6", () -> full.erase(0, 0));
    }

    private static void deliver() {
        TombstoneSites x = typed(3, "abc");
        due.is("not ready", x.deliver(1, 0, 2), 0);
        due.is("not ready yet", x.deliver(1, 0, 1), 0);
        refused(x, "waits already", () -> x.deliver(1, 0, 2));
        due.is("all three", x.deliver(1, 0, 0), 3);
        due.same("text", Dump.text(x, 1), "abc");
        refused(x, "arrived before", () -> x.deliver(1, 0, 0));
        refused(x, "its own", () -> x.deliver(0, 0, 0));
        refused(x, "no such operation", () -> x.deliver(1, 0, 3));
        refused(x, "number below", () -> x.deliver(1, 0, -1));
        refused(x, "number most", () -> x.deliver(1, 0, MOST));
        refused(x, "number least", () -> x.deliver(1, 0, LEAST));
        refused(x, "no number 6", () -> x.deliver(2, 0, 6));
        refused(x, "no site to", () -> x.deliver(3, 0, 0));
        refused(x, "no site to below", () -> x.deliver(-1, 0, 0));
        refused(x, "no site from", () -> x.deliver(1, 3, 0));
        refused(x, "no site from below", () -> x.deliver(1, -1, 0));
        moves();
        waitsForAnotherSite();
        freedTogether();
        pastAKnownOne();
    }

    /** Every branch of the rule by which a place is moved past an operation. */
    private static void moves() {
        due.same("same place, lower site first", both("", -1, 0, -1, 0), "120 121");
        due.same("in front of another's", both("abc", -1, 1, -1, 2), "97 120 98 121 99");
        due.same("behind another's", both("abc", -1, 3, -1, 0), "121 97 98 99 120");
        due.same("insert where other erases", both("abc", -1, 1, 1, -1), "97 120 -98 99");
        due.same("erase where other inserts", both("abc", 1, -1, -1, 1), "97 121 -98 99");
        due.same("erase behind other's insert", both("abc", 2, -1, -1, 1), "97 121 98 -99");
        due.same("erase in front of other's insert", both("abc", 0, -1, -1, 1), "-97 121 98 99");
        due.same("both erase one", both("abc", 1, -1, 1, -1), "97 -98 99");
        due.same("both erase", both("abc", 0, -1, 2, -1), "-97 98 -99");
        due.same("insert behind other's erase", both("abc", -1, 3, 0, -1), "-97 98 99 120");
    }

    /** Sites 0 and 1 each erase or insert (x, y) not knowing of the other; the cells of both after. */
    private static String both(String text, int erase0, int insert0, int erase1, int insert1) {
        TombstoneSites x = typed(2, text);
        x.sync(1, 0);
        change(x, 0, erase0, insert0, 'x');
        change(x, 1, erase1, insert1, 'y');
        due.is("at site 0", x.deliver(0, 1, 0), 1);
        due.is("at site 1", x.deliver(1, 0, text.length()), 1);
        due.same("the copies", Dump.cells(x, 1), Dump.cells(x, 0));
        return Dump.cells(x, 0);
    }

    private static void change(TombstoneSites x, int site, int erase, int insert, int c) {
        if (erase >= 0) {
            x.erase(site, erase);
        } else {
            x.insert(site, insert, c);
        }
    }

    private static void waitsForAnotherSite() {
        TombstoneSites x = typed(3, "a");
        x.deliver(1, 0, 0);
        x.insert(1, 1, 'b');
        due.is("its context is not here", x.deliver(2, 1, 0), 0);
        due.is("it waits", x.waiting(2), 1);
        due.is("its context comes", x.deliver(2, 0, 0), 2);
        due.same("text", Dump.text(x, 2), "ab");
    }

    /** z's maker knew y: x is moved past y first and then past z, though y's site is the lower. */
    private static void pastAKnownOne() {
        TombstoneSites x = new TombstoneSites(3);
        x.insert(0, 0, 'y');
        x.sync(1, 0);
        x.insert(1, 1, 'z');
        x.insert(2, 0, 'x');
        due.is("x at site 1", x.deliver(1, 2, 0), 1);
        due.is("x past y and z", x.place(1, 2, 0), 2);
        due.is("y and z at site 2", x.sync(2, 1), 2);
        due.is("z in front of x", x.place(2, 1, 0), 1);
        due.same("text", Dump.text(x, 1), "yzx");
        due.same("the copies", Dump.cells(x, 2), Dump.cells(x, 1));
    }

    /** Operations of sites 0 and 1 wait at site 2 for one operation of site 1, and are freed by it. */
    private static void freedTogether() {
        TombstoneSites x = new TombstoneSites(3);
        x.insert(1, 0, 'm');
        x.sync(0, 1);
        x.insert(0, 1, 'p');
        x.insert(1, 0, 'q');
        due.is("site 1 waits", x.deliver(2, 1, 1), 0);
        due.is("site 0 waits", x.deliver(2, 0, 0), 0);
        due.is("both are freed", x.deliver(2, 1, 0), 3);
        due.is("p was executed first", x.place(2, 0, 0), 1);
        due.is("q then", x.place(2, 1, 1), 0);
        due.same("text", Dump.text(x, 2), "qmp");
    }

    private static void arrive() {
        TombstoneSites x = typed(3, "ab");
        long first = x.code(0, 0);
        long second = x.code(0, 1);
        due.is("not ready", x.arrive(1, second), 0);
        due.is("both", x.arrive(1, first), 2);
        due.same("text", Dump.text(x, 1), "ab");
        refused(x, "arrived before", () -> x.arrive(1, first));
        refused(x, "its own", () -> x.arrive(0, first));
        refused(x, "no site 3", () -> x.arrive(3, first));
        refused(x, "no site -1", () -> x.arrive(-1, first));
        for (int bit = 0; bit < 64; bit++) {
            long turned = second ^ 1L << bit;
            refused(x, "a code with bit " + bit + " turned", () -> x.arrive(2, turned));
        }
        refused(x, "code 0", () -> x.arrive(2, 0));
        refused(x, "code -1", () -> x.arrive(2, -1));
        refused(x, "least code", () -> x.arrive(2, Long.MIN_VALUE));
        refused(x, "most code", () -> x.arrive(2, Long.MAX_VALUE));
        due.is("the right one", x.arrive(2, first), 1);
        due.is("delivered too", x.deliver(2, 0, 0), NONE);
        due.is("delivered first", x.deliver(2, 0, 1), 1);
        due.is("then by code", x.arrive(2, second), NONE);
    }

    private static void sync() {
        TombstoneSites x = typed(3, "ab");
        due.is("two", x.sync(1, 0), 2);
        due.is("again", x.sync(1, 0), 0);
        due.is("nothing new", x.sync(0, 1), 0);
        x.insert(1, 2, 'c');
        due.is("through another", x.sync(2, 1), 3);
        due.same("text", Dump.text(x, 2), "abc");
        due.is("not its own", x.sync(0, 2), 1);
        refused(x, "the same", () -> x.sync(1, 1));
        refused(x, "no site to", () -> x.sync(3, 0));
        refused(x, "no site from", () -> x.sync(0, 3));
        refused(x, "below to", () -> x.sync(-1, 0));
        refused(x, "below from", () -> x.sync(0, -1));
        TombstoneSites two = typed(2, "ab");
        refused(two, "no third site", () -> two.sync(0, 2));
        syncAndWaiting();
        syncOrder();
    }

    private static void syncAndWaiting() {
        TombstoneSites x = typed(3, "abc");
        x.deliver(1, 0, 0);
        x.deliver(1, 0, 2);
        due.is("what waits there does not come", x.sync(2, 1), 1);
        due.is("nor waits it here", x.waiting(2), 0);
        x.deliver(2, 0, 2);
        due.is("one comes, one waited", x.sync(2, 0), 2);
        due.same("text", Dump.text(x, 2), "abc");
    }

    /** The lowest site's come first, though they have to wait for the others. */
    private static void syncOrder() {
        TombstoneSites x = new TombstoneSites(3);
        x.insert(1, 0, 'm');
        x.sync(0, 1);
        x.insert(0, 0, 'a');
        x.insert(1, 0, 'n');
        x.sync(0, 1);
        due.is("three", x.sync(2, 0), 3);
        due.is("a before n", x.place(2, 0, 0), 0);
        due.is("n behind a", x.place(2, 1, 1), 1);
        due.same("the copies", Dump.cells(x, 2), Dump.cells(x, 0));
        syncByNumber();
    }

    /** What waits for site 0's first is executed before site 0's second has arrived. */
    private static void syncByNumber() {
        TombstoneSites x = typed(3, "a");
        x.sync(1, 0);
        x.insert(1, 1, 'p');
        x.insert(0, 0, 'b');
        due.is("p waits", x.deliver(2, 1, 0), 0);
        due.is("a, p and b", x.sync(2, 0), 3);
        due.is("p before b came", x.place(2, 1, 0), 1);
        due.same("text", Dump.text(x, 2), "bap");
    }

    private static void code() {
        TombstoneSites x = typed(3, "ab");
        due.is("first insert", x.code(0, 0), 64L + 97 * 8192);
        due.is("second insert", x.code(0, 1), 4L + 64 + 128 + 98 * 8192 + 2097152);
        x.sync(2, 0);
        x.insert(2, 0, 255);
        x.erase(2, 2);
        due.is("erase at place 2", x.code(2, 1), 2L + 4 + 2 * 128 + 2 * 2097152 + 536870912);
        x.sync(1, 2);
        due.is("erase of the first", x.erase(1, 0), 0);
        due.is("its code", x.code(1, 0), 1L + 2 * 2097152 + 2 * 536870912L);
        due.is("no number 2", x.code(0, 2), NONE);
        due.is("no number -1", x.code(0, -1), NONE);
        due.is("no number 6", x.code(0, 6), NONE);
        due.is("no number 6 though the next site has 0", x.code(1, 6), NONE);
        due.is("no site -1", x.code(-1, 0), NONE);
        due.is("no site 3", x.code(3, 0), NONE);
        due.is("least number", x.code(0, LEAST), NONE);
        due.is("most site", x.code(MOST, MOST), NONE);
        largeCode();
    }

    /** A context of six operations of site 2 goes beyond what an int holds. */
    private static void largeCode() {
        TombstoneSites x = new TombstoneSites(3);
        for (int k = 0; k < 6; k++) {
            x.insert(2, k, 200 + k);
        }
        x.sync(1, 2);
        for (int k = 0; k < 6; k++) {
            x.insert(1, 6 + k, 100 + k);
        }
        x.sync(0, 1);
        x.insert(0, 12, 255);
        long want = 64L + 12 * 128 + 255 * 8192 + 6 * 33554432L + 6 * 536870912L;
        due.is("beyond an int", x.code(0, 0), want);
        due.is("arrives", x.arrive(2, want), 0);
        due.is("after what it knows", x.sync(2, 1), 7);
        due.is("arrives at 1", x.arrive(1, want), 1);
        due.same("the copies", Dump.cells(x, 2), Dump.cells(x, 1));
    }

    private static void executed() {
        TombstoneSites x = typed(3, "ab");
        x.deliver(1, 0, 0);
        x.deliver(2, 0, 1);
        due.is("its own", x.executed(0, 0), 2);
        due.is("one", x.executed(1, 0), 1);
        due.is("one that waits", x.executed(2, 0), 0);
        due.is("none", x.executed(0, 1), 0);
        due.is("no site", x.executed(3, 0), NONE);
        due.is("no site below", x.executed(-1, 0), NONE);
        due.is("no site of", x.executed(0, 3), NONE);
        due.is("no site of below", x.executed(0, -1), NONE);
        due.is("no third site", new TombstoneSites(2).executed(0, 2), NONE);
        TombstoneSites full = typed(3, "abcdef");
        full.sync(2, 0);
        due.is("six", full.executed(2, 0), 6);
    }

    private static void waiting() {
        TombstoneSites x = typed(3, "abcd");
        due.is("none", x.waiting(1), 0);
        x.deliver(1, 0, 3);
        due.is("one", x.waiting(1), 1);
        x.deliver(1, 0, 1);
        due.is("two", x.waiting(1), 2);
        x.insert(1, 0, 'z');
        due.is("two, though it made one", x.waiting(1), 2);
        x.deliver(1, 0, 0);
        due.is("one is left", x.waiting(1), 1);
        due.is("not at the other", x.waiting(2), 0);
        x.sync(1, 0);
        due.is("none is left", x.waiting(1), 0);
        due.is("no site", x.waiting(3), NONE);
        due.is("no site below", x.waiting(-1), NONE);
        due.is("no third site", new TombstoneSites(2).waiting(2), NONE);
    }

    private static void place() {
        TombstoneSites x = typed(3, "ab");
        x.insert(1, 0, 'c');
        x.deliver(1, 0, 1);
        due.is("waits", x.place(1, 0, 1), NONE);
        x.deliver(1, 0, 0);
        due.is("in front of c", x.place(1, 0, 0), 0);
        due.is("between", x.place(1, 0, 1), 1);
        due.is("its own stays", x.place(1, 1, 0), 0);
        x.deliver(0, 1, 0);
        due.is("c behind a and b", x.place(0, 1, 0), 2);
        due.is("not arrived", x.place(2, 0, 0), NONE);
        due.is("not made", x.place(0, 0, 2), NONE);
        due.is("no number -1", x.place(0, 0, -1), NONE);
        due.is("no number 6", x.place(0, 0, 6), NONE);
        due.is("no site", x.place(3, 0, 0), NONE);
        due.is("no site below", x.place(-1, 0, 0), NONE);
        due.is("no site of", x.place(0, 3, 0), NONE);
        due.is("no site of below", x.place(0, -1, 0), NONE);
        due.is("no such things", x.place(MOST, LEAST, MOST), NONE);
        x.erase(1, 2);
        x.insert(0, 0, 'd');
        x.deliver(0, 1, 1);
        due.is("an erase behind a new cell", x.place(0, 1, 1), 3);
        due.same("cells", Dump.cells(x, 0), "100 97 98 -99");
    }

    private static void length() {
        TombstoneSites x = typed(3, "abc");
        due.is("three", x.length(0), 3);
        x.erase(0, 1);
        due.is("two", x.length(0), 2);
        due.is("none", x.length(1), 0);
        x.sync(2, 0);
        due.is("two there", x.length(2), 2);
        due.is("no site", x.length(3), NONE);
        due.is("no site below", x.length(-1), NONE);
        due.is("no third site", new TombstoneSites(2).length(2), NONE);
    }

    private static void at() {
        TombstoneSites x = typed(3, "abc");
        x.insert(0, 3, 255);
        x.erase(0, 0);
        due.is("the first visible", x.at(0, 0), 'b');
        due.is("the second", x.at(0, 1), 'c');
        due.is("255", x.at(0, 2), 255);
        due.is("beyond", x.at(0, 3), NONE);
        due.is("below", x.at(0, -1), NONE);
        due.is("least", x.at(0, LEAST), NONE);
        due.is("most", x.at(0, MOST), NONE);
        due.is("empty site", x.at(1, 0), NONE);
        due.is("no site", x.at(3, 0), NONE);
        due.is("no site below", x.at(-1, 0), NONE);
    }

    private static void cells() {
        TombstoneSites x = typed(3, "abc");
        due.is("three", x.cells(0), 3);
        x.erase(0, 1);
        due.is("erased ones stay", x.cells(0), 3);
        due.is("none", x.cells(1), 0);
        due.is("no site", x.cells(3), NONE);
        due.is("no site below", x.cells(-1), NONE);
        due.is("no third site", new TombstoneSites(2).cells(2), NONE);
        TombstoneSites full = new TombstoneSites(3);
        for (int k = 0; k < 18; k++) {
            full.insert(k % 3, 0, 65 + k);
        }
        full.sync(0, 1);
        full.sync(1, 0);
        full.sync(0, 2);
        full.sync(1, 2);
        full.sync(2, 0);
        for (int s = 0; s < 3; s++) {
            due.is("eighteen", full.cells(s), 18);
            due.same("all agree", Dump.text(full, s), "PMJGDAQNKHEBROLIFC");
        }
    }

    private static void cell() {
        TombstoneSites x = typed(3, "abc");
        x.erase(0, 1);
        due.is("visible", x.cell(0, 0), 'a');
        due.is("invisible", x.cell(0, 1), -'b');
        due.is("the last", x.cell(0, 2), 'c');
        due.is("beyond", x.cell(0, 3), 0);
        due.is("below", x.cell(0, -1), 0);
        due.is("least", x.cell(0, LEAST), 0);
        due.is("most", x.cell(0, MOST), 0);
        due.is("empty site", x.cell(1, 0), 0);
        due.is("no site", x.cell(3, 0), 0);
        due.is("no site below", x.cell(-1, 0), 0);
        due.is("no third site", new TombstoneSites(2).cell(2, 0), 0);
        x.sync(1, 0);
        due.is("invisible there too", x.cell(1, 1), -'b');
    }

    private static void stable() {
        TombstoneSites x = typed(2, "ab");
        due.is("nothing heard", x.stable(0, 0), 0);
        x.sync(1, 0);
        due.is("the other's last knew one, and itself", x.stable(1, 0), 2);
        due.is("its own, of which nobody told", x.stable(1, 1), 0);
        x.insert(1, 0, 'c');
        due.is("made, but not known to be seen", x.stable(1, 1), 0);
        x.deliver(0, 1, 0);
        due.is("the other has seen both", x.stable(0, 0), 2);
        due.is("and its own one", x.stable(0, 1), 1);
        x.insert(0, 0, 'd');
        due.is("a new one is not yet stable", x.stable(0, 0), 2);
        x.deliver(1, 0, 2);
        due.is("the other's context says so", x.stable(1, 1), 1);
        due.is("and 1 more of its own", x.stable(1, 0), 3);
        due.is("no site", x.stable(2, 0), NONE);
        due.is("no site below", x.stable(-1, 0), NONE);
        due.is("no site of", x.stable(0, 2), NONE);
        due.is("no site of below", x.stable(0, -1), NONE);
        stableOfThree();
    }

    private static void stableOfThree() {
        TombstoneSites x = typed(3, "ab");
        x.sync(1, 0);
        x.insert(1, 0, 'c');
        x.sync(0, 1);
        due.is("site 2 has told nothing", x.stable(0, 0), 0);
        x.deliver(2, 0, 0);
        x.insert(2, 0, 'd');
        x.deliver(0, 2, 0);
        due.is("site 2 knew one", x.stable(0, 0), 1);
        due.is("site 2 knew none of site 1", x.stable(0, 1), 0);
        due.is("site 1 knew none of site 2", x.stable(0, 2), 0);
        x.deliver(1, 2, 0);
        due.is("site 0's last is ab", x.stable(1, 0), 1);
        x.sync(2, 0);
        x.insert(2, 0, 'e');
        x.deliver(1, 2, 1);
        due.is("site 2's last knew both", x.stable(1, 0), 2);
        x.sync(0, 2);
        due.is("the last one counts", x.stable(0, 0), 2);
    }

    /** An object at whose site 0 the text was typed. */
    private static TombstoneSites typed(int sites, String text) {
        TombstoneSites x = new TombstoneSites(sites);
        for (int i = 0; i < text.length(); i++) {
            due.is("typing", x.insert(0, i, text.charAt(i)), i);
        }
        return x;
    }

    /** The call must answer NONE and change nothing. */
    private static void refused(TombstoneSites x, String what, IntSupplier call) {
        String before = Dump.of(x);
        due.is(what, call.getAsInt(), NONE);
        due.same("the state after: " + what, Dump.of(x), before);
    }
}
