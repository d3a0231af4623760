/** Each promise of the document in ordinary use. Edges are EdgesTest's, refused calls RefusalTest's. */
public final class PromisesTest {
    private static final int NONE = TombstoneSites.NONE;

    public static void main(String[] args) {
        Sentences promises = new Sentences("PromisesTest");
        promises.holds("1: a new object", PromisesTest::newObject);
        promises.holds("2: sites", PromisesTest::sites);
        promises.holds("3: insert", PromisesTest::insert);
        promises.holds("4: erase", PromisesTest::erase);
        promises.holds("5: deliver", PromisesTest::deliver);
        promises.holds("5: deliver of what was made at once", PromisesTest::madeAtOnce);
        promises.holds("6: arrive", PromisesTest::arrive);
        promises.holds("7: sync", PromisesTest::sync);
        promises.holds("8: code", PromisesTest::code);
        promises.holds("9: executed", PromisesTest::executed);
        promises.holds("10: waiting", PromisesTest::waiting);
        promises.holds("11: place", PromisesTest::place);
        promises.holds("12: length", PromisesTest::length);
        promises.holds("13: at", PromisesTest::at);
        promises.holds("14: cells", PromisesTest::cells);
        promises.holds("15: cell", PromisesTest::cell);
        promises.holds("16: stable", PromisesTest::stable);
        promises.holds("16: stable of three sites", PromisesTest::stableOfThree);
        promises.holds("the example in README.md", PromisesTest::example);
        promises.finish();
    }

    private static void newObject(Due due) {
        due.is("of three sites", new CountedSites(3).cells(2), 0);
        due.is("of two sites", new CountedSites(2).cells(2), NONE);
    }

    private static void sites(Due due) {
        due.is("three", Scenes.typed(3, "abc").sites(), 3);
        due.is("two", Scenes.typed(2, "abc").sites(), 2);
    }

    private static void insert(Due due) {
        CountedSites x = new CountedSites(2);
        due.is("the first", x.insert(0, 0, 'b'), 0);
        due.is("in front", x.insert(0, 0, 'a'), 1);
        due.is("behind", x.insert(0, 2, 'd'), 2);
        due.is("between", x.insert(0, 2, 'c'), 3);
        due.same("text", Dump.text(x, 0), "abcd");
        due.is("the other site's first", x.insert(1, 0, 'z'), 0);
        due.same("its text", Dump.text(x, 1), "z");
    }

    private static void erase(Due due) {
        CountedSites x = Scenes.typed(2, "abcd");
        due.is("the second", x.erase(0, 1), 4);
        due.same("cells", Dump.cells(x, 0), "97 -98 99 100");
        due.is("the second of the rest", x.erase(0, 1), 5);
        due.same("cells", Dump.cells(x, 0), "97 -98 -99 100");
        due.same("text", Dump.text(x, 0), "ad");
    }

    private static void deliver(Due due) {
        CountedSites x = Scenes.typed(3, "abc");
        due.is("not ready", x.deliver(1, 0, 2), 0);
        due.is("not ready yet", x.deliver(1, 0, 1), 0);
        due.is("all three", x.deliver(1, 0, 0), 3);
        due.same("text", Dump.text(x, 1), "abc");
        x.insert(1, 3, 'd');
        due.is("its context is not here", x.deliver(2, 1, 0), 0);
        due.is("a part of its context comes", x.deliver(2, 0, 0), 1);
        due.is("another", x.deliver(2, 0, 1), 1);
        due.is("the rest", x.deliver(2, 0, 2), 2);
        due.same("text", Dump.text(x, 2), "abcd");
    }

    private static void madeAtOnce(Due due) {
        due.same("same place, lower site first", both(due, "", -1, 0, -1, 0), "120 121");
        due.same("in front of another's", both(due, "abc", -1, 1, -1, 2), "97 120 98 121 99");
        due.same("behind another's", both(due, "abc", -1, 3, -1, 0), "121 97 98 99 120");
        due.same("insert where other erases", both(due, "abc", -1, 1, 1, -1), "97 120 -98 99");
        due.same("erase where other inserts", both(due, "abc", 1, -1, -1, 1), "97 121 -98 99");
        due.same("erase behind other's insert", both(due, "abc", 2, -1, -1, 1), "97 121 98 -99");
        due.same("erase in front of other's insert", both(due, "abc", 0, -1, -1, 1), "-97 121 98 99");
        due.same("both erase one", both(due, "abc", 1, -1, 1, -1), "97 -98 99");
        due.same("both erase", both(due, "abc", 0, -1, 2, -1), "-97 98 -99");
        due.same("insert behind other's erase", both(due, "abc", -1, 3, 0, -1), "-97 98 99 120");
    }

    /** Sites 0 and 1 each erase or insert (x, y) not knowing of the other; the cells of both after. */
    private static String both(Due due, String text, int erase0, int insert0, int erase1, int insert1) {
        CountedSites x = Scenes.shared(2, text);
        change(x, 0, erase0, insert0, 'x');
        change(x, 1, erase1, insert1, 'y');
        due.is("at site 0", x.deliver(0, 1, 0), 1);
        due.is("at site 1", x.deliver(1, 0, text.length()), 1);
        due.same("the copies", Dump.cells(x, 1), Dump.cells(x, 0));
        return Dump.cells(x, 0);
    }

    private static void change(CountedSites x, int site, int erase, int insert, int c) {
        if (erase >= 0) {
            x.erase(site, erase);
        } else {
            x.insert(site, insert, c);
        }
    }

    private static void arrive(Due due) {
        CountedSites x = Scenes.typed(3, "ab");
        long first = x.code(0, 0);
        long second = x.code(0, 1);
        due.is("not ready", x.arrive(1, second), 0);
        due.is("both", x.arrive(1, first), 2);
        due.same("text", Dump.text(x, 1), "ab");
        x.erase(1, 0);
        due.is("an erase", x.arrive(0, x.code(1, 0)), 1);
        due.same("text", Dump.text(x, 0), "b");
    }

    private static void sync(Due due) {
        CountedSites x = Scenes.typed(3, "ab");
        due.is("two", x.sync(1, 0), 2);
        due.is("again", x.sync(1, 0), 0);
        x.insert(1, 2, 'c');
        due.is("through another", x.sync(2, 1), 3);
        due.same("text", Dump.text(x, 2), "abc");
        due.is("not its own", x.sync(0, 2), 1);
        due.same("text", Dump.text(x, 0), "abc");
    }

    private static void code(Due due) {
        CountedSites x = Scenes.typed(3, "ab");
        due.is("first insert", x.code(0, 0), 64L + 97 * 8192);
        due.is("second insert", x.code(0, 1), 4L + 64 + 128 + 98 * 8192 + 2097152);
        x.sync(2, 0);
        x.insert(2, 0, 255);
        x.erase(2, 2);
        due.is("erase at place 2", x.code(2, 1), 2L + 4 + 2 * 128 + 2 * 2097152 + 536870912);
        x.sync(1, 2);
        due.is("erase of the first", x.erase(1, 0), 0);
        due.is("its code", x.code(1, 0), 1L + 2 * 2097152 + 2 * 536870912L);
    }

    private static void executed(Due due) {
        CountedSites x = Scenes.typed(3, "ab");
        x.deliver(1, 0, 0);
        due.is("its own", x.executed(0, 0), 2);
        due.is("one of two", x.executed(1, 0), 1);
        due.is("none", x.executed(2, 0), 0);
    }

    private static void waiting(Due due) {
        CountedSites x = Scenes.typed(3, "abcd");
        due.is("none", x.waiting(1), 0);
        x.deliver(1, 0, 3);
        due.is("one", x.waiting(1), 1);
        x.deliver(1, 0, 1);
        due.is("two", x.waiting(1), 2);
        x.insert(1, 0, 'z');
        due.is("two, though it made one", x.waiting(1), 2);
        x.deliver(1, 0, 0);
        due.is("one is left", x.waiting(1), 1);
        due.is("not at the other", x.waiting(2), 0);
        x.sync(1, 0);
        due.is("none is left", x.waiting(1), 0);
    }

    private static void place(Due due) {
        CountedSites x = Scenes.typed(3, "ab");
        x.insert(1, 0, 'c');
        x.sync(1, 0);
        due.is("in front of c", x.place(1, 0, 0), 0);
        due.is("between", x.place(1, 0, 1), 1);
        due.is("its own stays", x.place(1, 1, 0), 0);
        x.deliver(0, 1, 0);
        due.is("c behind a and b", x.place(0, 1, 0), 2);
        x.erase(1, 2);
        x.insert(0, 0, 'd');
        x.deliver(0, 1, 1);
        due.is("an erase behind a new cell", x.place(0, 1, 1), 3);
        due.same("cells", Dump.cells(x, 0), "100 97 98 -99");
    }

    private static void length(Due due) {
        CountedSites x = Scenes.typed(3, "abc");
        due.is("three", x.length(0), 3);
        x.erase(0, 1);
        due.is("two", x.length(0), 2);
        x.sync(2, 0);
        due.is("two there", x.length(2), 2);
    }

    private static void at(Due due) {
        CountedSites x = Scenes.typed(3, "abc");
        x.erase(0, 0);
        due.is("the first visible", x.at(0, 0), 'b');
        due.is("the second", x.at(0, 1), 'c');
    }

    private static void cells(Due due) {
        CountedSites x = Scenes.typed(3, "abc");
        due.is("three", x.cells(0), 3);
        x.erase(0, 1);
        due.is("the erased one stays", x.cells(0), 3);
        x.sync(1, 0);
        due.is("there too", x.cells(1), 3);
    }

    private static void cell(Due due) {
        CountedSites x = Scenes.typed(3, "abc");
        x.erase(0, 1);
        due.is("visible", x.cell(0, 0), 'a');
        due.is("invisible", x.cell(0, 1), -'b');
        due.is("the last", x.cell(0, 2), 'c');
        x.sync(1, 0);
        due.is("invisible there too", x.cell(1, 1), -'b');
    }

    private static void stable(Due due) {
        CountedSites x = Scenes.typed(2, "ab");
        due.is("nothing heard", x.stable(0, 0), 0);
        x.sync(1, 0);
        due.is("the other's last knew one, and itself", x.stable(1, 0), 2);
        x.insert(1, 0, 'c');
        due.is("made, but not known to be seen", x.stable(1, 1), 0);
        x.deliver(0, 1, 0);
        due.is("the other has seen both", x.stable(0, 0), 2);
        due.is("and its own one", x.stable(0, 1), 1);
        x.insert(0, 0, 'd');
        due.is("a new one is not yet stable", x.stable(0, 0), 2);
        x.deliver(1, 0, 2);
        due.is("the other's context says so", x.stable(1, 1), 1);
        due.is("and 1 more of its own", x.stable(1, 0), 3);
    }

    private static void stableOfThree(Due due) {
        CountedSites x = Scenes.typed(3, "ab");
        x.sync(1, 0);
        x.insert(1, 0, 'c');
        x.sync(0, 1);
        x.deliver(2, 0, 0);
        x.insert(2, 0, 'd');
        x.deliver(0, 2, 0);
        due.is("site 2 knew one", x.stable(0, 0), 1);
        due.is("site 2 knew none of site 1", x.stable(0, 1), 0);
        due.is("site 1 knew none of site 2", x.stable(0, 2), 0);
        x.sync(2, 0);
        x.insert(2, 0, 'e');
        x.deliver(1, 2, 0);
        x.deliver(1, 2, 1);
        due.is("site 2's last knew both", x.stable(1, 0), 2);
        x.sync(0, 2);
        due.is("the last one counts", x.stable(0, 0), 2);
    }

    private static void example(Due due) {
        CountedSites x = new CountedSites(2);
        due.is("a", x.insert(0, 0, 'a'), 0);
        due.is("b", x.insert(1, 0, 'b'), 0);
        due.is("b at site 0", x.sync(0, 1), 1);
        due.is("a at site 1", x.deliver(1, 0, 0), 1);
        due.is("a", x.at(0, 0), 'a');
        due.is("b behind it", x.at(1, 1), 'b');
        due.is("the erase", x.erase(1, 0), 1);
        due.is("the cell", x.cell(1, 0), -'a');
        due.is("the erase at site 0", x.arrive(0, x.code(1, 1)), 1);
        due.is("what is left", x.length(0), 1);
        due.is("as at site 1", x.length(1), 1);
    }
}
