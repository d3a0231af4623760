/** Each sentence of the promises that names a boundary case which is not a refusal. */
public final class EdgesTest {
    private static final int NONE = TombstoneSites.NONE;
    private static final int LEAST = Integer.MIN_VALUE;
    private static final int MOST = Integer.MAX_VALUE;

    public static void main(String[] args) {
        Sentences edges = new Sentences("EdgesTest");
        newObjects(edges);
        making(edges);
        arriving(edges);
        asking(edges);
        stable(edges);
        edges.finish();
    }

    private static void newObjects(Sentences edges) {
        edges.holds("1: three sites when sites is 3", EdgesTest::threeSites);
        edges.holds("1: else two", EdgesTest::elseTwo);
        edges.holds("1: sites 0, 1, (2)", EdgesTest::whichSites);
        edges.holds("1: a new object has nothing, whatever others have", EdgesTest::objectsAreApart);
        edges.holds("2: how many sites there are, at any time", EdgesTest::sitesStay);
    }

    private static void making(Sentences edges) {
        edges.holds("3: it is the i-th visible one then (from 0)", EdgesTest::visibleThen);
        edges.holds("3: its position is the cell that is the i-th visible one now", EdgesTest::positionOfVisible);
        edges.holds("3: or how many cells there are, if i is how many are visible", EdgesTest::positionBehindAll);
        edges.holds("3: c from 1 to 255", EdgesTest::leastAndGreatestCharacter);
        edges.holds("3: answers its number, up to the sixth", EdgesTest::insertNumbers);
        edges.holds("4: the i-th visible character, from 0 to how many are visible less 1", EdgesTest::eraseEnds);
        edges.holds("4: the only visible one", EdgesTest::eraseTheOnlyOne);
        edges.holds("4: answers its number, up to the sixth", EdgesTest::eraseNumbers);
    }

    private static void arriving(Sentences edges) {
        edges.holds("5: how many operations were executed there by that", EdgesTest::deliverCounts);
        edges.holds("5: (0 when it waits)", EdgesTest::deliverWaits);
        edges.holds("5: all that can wait, freed by one", EdgesTest::deliverFreesMost);
        edges.holds("6: arrives as by deliver", EdgesTest::arriveCounts);
        edges.holds("6: no operation that was made has this code, until one is made", EdgesTest::arriveOnceMade);
        edges.holds("7: all operations that were executed at the site from", EdgesTest::syncThroughAnother);
        edges.holds("7: (those that wait there not)", EdgesTest::syncNotWaiting);
        edges.holds("7: are not the site to's own", EdgesTest::syncNotOwn);
        edges.holds("7: and have not arrived at to", EdgesTest::syncNotArrived);
        edges.holds("7: those of the lowest site first", EdgesTest::syncLowestFirst);
        edges.holds("7: each site's in the order of their numbers", EdgesTest::syncByNumber);
        edges.holds("7: one after the other", EdgesTest::syncOneByOne);
        edges.holds("7: how many were executed at to by that, freed ones too", EdgesTest::syncFrees);
        edges.holds("7: 0 where nothing comes", EdgesTest::syncOfNothing);
        edges.holds("7: all of two full sites", EdgesTest::syncOfFullSites);
    }

    private static void asking(Sentences edges) {
        edges.holds("8: the code of operation k, from the first to the sixth", EdgesTest::codesOfAll);
        edges.holds("8: a code stays", EdgesTest::codeStays);
        edges.holds("9: how many were executed at the site, from 0 to 6", EdgesTest::executedUpToSix);
        edges.holds("9: (its own: how many it made)", EdgesTest::executedOwn);
        edges.holds("10: how many operations wait, from 0 to all", EdgesTest::waitingUpToAll);
        edges.holds("11: the place at which it was executed", EdgesTest::placeStays);
        edges.holds("12: how many visible characters, from 0 to 18", EdgesTest::lengths);
        edges.holds("13: the i-th visible character, from 0", EdgesTest::atEnds);
        edges.holds("14: how many cells, from 0 to 18", EdgesTest::cellCounts);
        edges.holds("15: the character of cell i", EdgesTest::cellEnds);
        edges.holds("15: taken negative when it is not visible", EdgesTest::cellNegative);
        edges.holds("15: 0 when there is none", EdgesTest::noCell);
    }

    private static void stable(Sentences edges) {
        edges.holds("16: the least, over all sites j", EdgesTest::stableLeast);
        edges.holds("16: of itself what its vector says", EdgesTest::stableItself);
        edges.holds("16: what the context of the last of these says", EdgesTest::stableLast);
        edges.holds("16: of which it has executed operations (not those that wait)", EdgesTest::stableNotWaiting);
        edges.holds("16: and 1 more if of is j", EdgesTest::stableOneMore);
        edges.holds("16: of one of which it has executed none, 0", EdgesTest::stableNoneHeard);
        edges.holds("16: all six of every site", EdgesTest::stableSix);
    }

    private static void threeSites(Due due) {
        CountedSites x = new CountedSites(3);
        due.is("sites", x.sites(), 3);
        due.is("the third works", x.insert(2, 0, 'a'), 0);
        due.is("and sends", x.sync(0, 2), 1);
    }

    private static void elseTwo(Due due) {
        for (int sites : new int[] {2, 4, 1, 0, -1, -3, 5, 7, 259, 65539, LEAST, LEAST + 3, MOST}) {
            CountedSites x = new CountedSites(sites);
            due.is("sites of " + sites, x.sites(), 2);
            due.is("the second works", x.insert(1, 0, 'a'), 0);
            due.is("and sends", x.sync(0, 1), 1);
            due.is("there is no third", x.insert(2, 0, 'a'), NONE);
        }
    }

    private static void whichSites(Due due) {
        for (int sites = 2; sites <= 3; sites++) {
            CountedSites x = new CountedSites(sites);
            for (int s = -2; s <= 4; s++) {
                due.is("site " + s + " of " + sites, x.cells(s), s >= 0 && s < sites ? 0 : NONE);
            }
        }
    }

    private static void objectsAreApart(Due due) {
        CountedSites x = Scenes.full(3);
        CountedSites y = new CountedSites(3);
        due.is("cells", y.cells(0), 0);
        due.is("made", y.executed(0, 0), 0);
        due.is("code", y.code(0, 0), NONE);
        due.is("the first operation", y.insert(0, 0, 'z'), 0);
        due.is("the other has its own", x.executed(0, 0), 6);
    }

    private static void sitesStay(Due due) {
        CountedSites x = new CountedSites(2);
        due.is("at first", x.sites(), 2);
        x.insert(2, 0, 'a');
        x.insert(1, 0, 'a');
        x.sync(0, 1);
        due.is("then", x.sites(), 2);
        due.is("of three, full", Scenes.full(3).sites(), 3);
    }

    private static void visibleThen(Due due) {
        for (int i = 0; i <= 4; i++) {
            CountedSites x = Scenes.shared(2, "abcdef");
            x.erase(1, 4);
            x.erase(1, 0);
            due.is("insert at " + i, x.insert(1, i, 'x'), 2);
            due.is("it is there then", x.at(1, i), 'x');
            due.is("one more is visible", x.length(1), 5);
        }
    }

    /** Cells -a b -c d: the first visible one is cell 1, the second is cell 3. */
    private static void positionOfVisible(Due due) {
        CountedSites x = Scenes.shared(2, "abcd");
        x.erase(1, 2);
        x.erase(1, 0);
        due.is("at the second visible", x.insert(1, 1, 'y'), 2);
        due.is("its place", x.place(1, 1, 2), 3);
        due.is("at the first visible", x.insert(1, 0, 'x'), 3);
        due.is("its place", x.place(1, 1, 3), 1);
        due.same("cells", Dump.cells(x, 1), "-97 120 98 -99 121 100");
    }

    private static void positionBehindAll(Due due) {
        CountedSites x = new CountedSites(2);
        due.is("of an empty site", x.insert(0, 0, 'a'), 0);
        due.is("its place", x.place(0, 0, 0), 0);
        due.is("of one visible", x.insert(0, 1, 'b'), 1);
        due.is("its place", x.place(0, 0, 1), 1);
        x.erase(0, 1);
        due.is("behind an invisible one", x.insert(0, 1, 'c'), 3);
        due.is("its place", x.place(0, 0, 3), 2);
        x.erase(0, 1);
        x.erase(0, 0);
        x.sync(1, 0);
        due.is("none is visible", x.length(1), 0);
        due.is("behind all invisible ones", x.insert(1, 0, 'd'), 0);
        due.is("its place", x.place(1, 1, 0), 3);
        due.same("cells", Dump.cells(x, 1), "-97 -98 -99 100");
    }

    private static void leastAndGreatestCharacter(Due due) {
        CountedSites x = new CountedSites(2);
        due.is("1", x.insert(0, 0, 1), 0);
        due.is("255", x.insert(0, 1, 255), 1);
        due.same("cells", Dump.cells(x, 0), "1 255");
        due.is("both arrive", x.sync(1, 0), 2);
        due.same("cells there", Dump.cells(x, 1), "1 255");
    }

    private static void insertNumbers(Due due) {
        CountedSites x = new CountedSites(3);
        for (int k = 0; k < 6; k++) {
            for (int s = 0; s < 3; s++) {
                due.is("number " + k + " of " + s, x.insert(s, k, 'a' + k), k);
            }
        }
        due.same("text", Dump.text(x, 2), "abcdef");
    }

    private static void eraseEnds(Due due) {
        CountedSites x = Scenes.shared(2, "abcd");
        due.is("the last", x.erase(1, 3), 0);
        due.same("cells", Dump.cells(x, 1), "97 98 99 -100");
        due.is("the first", x.erase(1, 0), 1);
        due.same("cells", Dump.cells(x, 1), "-97 98 99 -100");
        due.is("the last that is visible", x.erase(1, 1), 2);
        due.same("cells", Dump.cells(x, 1), "-97 98 -99 -100");
        due.is("its place", x.place(1, 1, 2), 2);
    }

    private static void eraseTheOnlyOne(Due due) {
        CountedSites x = new CountedSites(2);
        x.insert(1, 0, 'a');
        due.is("the only one", x.erase(1, 0), 1);
        due.is("none is visible", x.length(1), 0);
        due.is("the cell stays", x.cell(1, 0), -'a');
    }

    private static void eraseNumbers(Due due) {
        CountedSites x = Scenes.shared(3, "abcdef");
        for (int k = 0; k < 6; k++) {
            due.is("number " + k, x.erase(2, 0), k);
        }
        due.same("cells", Dump.cells(x, 2), "-97 -98 -99 -100 -101 -102");
        due.is("all arrive", x.sync(0, 2), 6);
        due.is("none is visible", x.length(0), 0);
    }

    private static void deliverCounts(Due due) {
        CountedSites x = Scenes.typed(3, "abc");
        due.is("one", x.deliver(1, 0, 0), 1);
        x.insert(1, 1, 'x');
        x.deliver(2, 1, 0);
        due.is("with one of another site", x.deliver(2, 0, 0), 2);
        x.deliver(2, 0, 2);
        due.is("with the next of its site", x.deliver(2, 0, 1), 2);
        due.is("that was all", x.executed(2, 0) + x.executed(2, 1), 4);
    }

    private static void deliverWaits(Due due) {
        CountedSites x = Scenes.typed(3, "ab");
        x.sync(1, 0);
        x.insert(1, 0, 'c');
        due.is("not the next of its site", x.deliver(2, 0, 1), 0);
        due.is("context of another site", x.deliver(2, 1, 0), 0);
        due.is("both wait", x.waiting(2), 2);
        due.is("nothing was executed", x.cells(2), 0);
    }

    /** Twelve operations of two sites, of which all but the first wait for it. */
    private static void deliverFreesMost(Due due) {
        CountedSites x = Scenes.typed(3, "abcdef");
        x.sync(1, 0);
        for (int k = 0; k < 6; k++) {
            x.insert(1, k, 'A' + k);
        }
        for (int k = 0; k < 6; k++) {
            due.is("site 1's " + k, x.deliver(2, 1, k), 0);
            if (k < 5) {
                due.is("site 0's " + (k + 1), x.deliver(2, 0, k + 1), 0);
            }
        }
        due.is("eleven wait", x.waiting(2), 11);
        due.is("all twelve", x.deliver(2, 0, 0), 12);
        due.same("text", Dump.text(x, 2), "ABCDEFabcdef");
    }

    private static void arriveCounts(Due due) {
        CountedSites x = Scenes.typed(3, "abc");
        long first = x.code(0, 0);
        long second = x.code(0, 1);
        long third = x.code(0, 2);
        due.is("it waits", x.arrive(2, third), 0);
        due.is("one", x.arrive(2, first), 1);
        due.is("two", x.arrive(2, second), 2);
        due.same("text", Dump.text(x, 2), "abc");
        due.is("it waits", x.arrive(1, second), 0);
        due.is("freed by deliver", x.deliver(1, 0, 0), 2);
        due.is("none is left but the third", x.sync(1, 0), 1);
        due.is("code of a code", x.arrive(0, x.code(0, 2)), NONE);
    }

    private static void arriveOnceMade(Due due) {
        CountedSites x = new CountedSites(2);
        long code = 64 + 8192L * 'a';
        due.is("not made yet", x.arrive(1, code), NONE);
        x.insert(0, 0, 'b');
        due.is("another was made", x.arrive(1, code), NONE);
        CountedSites y = new CountedSites(2);
        due.is("not made yet", y.arrive(1, code), NONE);
        y.insert(0, 0, 'a');
        due.is("made", y.arrive(1, code), 1);
        due.same("text", Dump.text(y, 1), "a");
    }

    private static void syncThroughAnother(Due due) {
        CountedSites x = Scenes.typed(3, "ab");
        x.deliver(1, 0, 0);
        x.insert(1, 1, 'c');
        due.is("its own and what it has of site 0", x.sync(2, 1), 2);
        due.same("text", Dump.text(x, 2), "ac");
        due.is("of site 0 one", x.executed(2, 0), 1);
        due.is("the other one", x.sync(2, 0), 1);
    }

    private static void syncNotWaiting(Due due) {
        CountedSites x = Scenes.typed(3, "abc");
        x.deliver(1, 0, 0);
        x.deliver(1, 0, 2);
        due.is("one of two", x.sync(2, 1), 1);
        due.is("none waits there", x.waiting(2), 0);
        due.is("it has not arrived there", x.deliver(2, 0, 2), 0);
        CountedSites y = Scenes.typed(3, "ab");
        y.deliver(1, 0, 1);
        due.is("only one that waits", y.sync(2, 1), 0);
        due.is("nothing waits", y.waiting(2), 0);
    }

    private static void syncNotOwn(Due due) {
        CountedSites x = Scenes.shared(3, "ab");
        x.insert(1, 2, 'c');
        due.is("not a and b", x.sync(0, 1), 1);
        due.is("nothing new", x.sync(0, 2), 0);
        due.same("text", Dump.text(x, 0), "abc");
        due.is("nothing waits", x.waiting(0), 0);
        due.is("its own as made", x.executed(0, 0), 2);
    }

    private static void syncNotArrived(Due due) {
        CountedSites x = Scenes.typed(2, "abcd");
        x.deliver(1, 0, 0);
        x.deliver(1, 0, 3);
        due.is("two come, and one waited", x.sync(1, 0), 3);
        due.is("all of them once", x.cells(1), 4);
        due.is("none waits", x.waiting(1), 0);
        due.is("nothing is left", x.sync(1, 0), 0);
    }

    /** a, of site 0, waits for m; then m frees it before n has come. */
    private static void syncLowestFirst(Due due) {
        CountedSites x = new CountedSites(3);
        x.insert(1, 0, 'm');
        x.sync(0, 1);
        x.insert(0, 1, 'a');
        x.insert(1, 0, 'n');
        x.sync(0, 1);
        due.is("three", x.sync(2, 0), 3);
        due.is("a before n", x.place(2, 0, 0), 1);
        due.is("n then", x.place(2, 1, 1), 0);
        due.same("text", Dump.text(x, 2), "nma");
        syncOfFreeOnes(due);
    }

    /** Neither knew of the other: site 0's comes first and is pushed back by site 1's. */
    private static void syncOfFreeOnes(Due due) {
        CountedSites x = Scenes.shared(3, "k");
        x.insert(0, 1, 'a');
        x.insert(1, 0, 'b');
        x.sync(1, 0);
        due.is("at site 1 a came behind b", x.place(1, 0, 1), 2);
        due.is("two", x.sync(2, 1), 2);
        due.is("at site 2 before it", x.place(2, 0, 1), 1);
        due.is("b then", x.place(2, 1, 0), 0);
    }

    /** p waits for a: it is executed when a has come and b has not. */
    private static void syncByNumber(Due due) {
        CountedSites x = Scenes.typed(3, "a");
        x.sync(1, 0);
        x.insert(1, 1, 'p');
        x.insert(0, 0, 'b');
        due.is("p waits", x.deliver(2, 1, 0), 0);
        due.is("a, p and b", x.sync(2, 0), 3);
        due.is("p before b came", x.place(2, 1, 0), 1);
        due.same("text", Dump.text(x, 2), "bap");
    }

    /** p of site 1 waits at site 2 for a; q, of site 1 too, comes only after b of site 0. */
    private static void syncOneByOne(Due due) {
        CountedSites x = Scenes.typed(3, "a");
        x.sync(1, 0);
        x.insert(1, 1, 'p');
        x.insert(1, 2, 'q');
        x.insert(0, 0, 'b');
        x.sync(1, 0);
        x.deliver(2, 1, 0);
        due.is("a, p, b and q", x.sync(2, 1), 4);
        due.is("p before b", x.place(2, 1, 0), 1);
        due.is("q behind it, after b", x.place(2, 1, 1), 3);
        due.same("text", Dump.text(x, 2), "bapq");
    }

    /** c, of site 2, is not at site 0, but waits at site 1 for a. */
    private static void syncFrees(Due due) {
        CountedSites x = Scenes.typed(3, "a");
        x.sync(2, 0);
        x.insert(2, 1, 'c');
        due.is("c waits", x.deliver(1, 2, 0), 0);
        due.is("a and c", x.sync(1, 0), 2);
        due.same("text", Dump.text(x, 1), "ac");
    }

    private static void syncOfNothing(Due due) {
        CountedSites x = new CountedSites(3);
        due.is("of a new object", x.sync(0, 1), 0);
        x.insert(0, 0, 'a');
        due.is("from an empty site", x.sync(0, 1), 0);
        due.is("to a third", x.sync(2, 1), 0);
        due.is("one", x.sync(1, 0), 1);
        due.is("again", x.sync(1, 0), 0);
        due.is("back", x.sync(0, 1), 0);
    }

    private static void syncOfFullSites(Due due) {
        CountedSites x = Scenes.full(3);
        due.is("six to site 1", x.sync(1, 0), 6);
        due.is("twelve to site 2", x.sync(2, 1), 12);
        due.is("twelve to site 0", x.sync(0, 2), 12);
        due.is("six to site 1", x.sync(1, 0), 6);
        due.is("nothing is left", x.sync(1, 2), 0);
        due.same("the copies 0 and 1", Dump.cells(x, 1), Dump.cells(x, 0));
        due.same("the copies 0 and 2", Dump.cells(x, 2), Dump.cells(x, 0));
    }

    private static void codesOfAll(Due due) {
        CountedSites x = Scenes.typed(2, "abcdef");
        for (int k = 0; k < 6; k++) {
            due.is("number " + k, x.code(0, k), 4 * k + 64 + 128 * k + 8192 * ('a' + k) + 2097152L * k);
        }
        due.is("none of site 1", x.code(1, 0), NONE);
    }

    private static void codeStays(Due due) {
        CountedSites x = Scenes.typed(2, "ab");
        long code = x.code(0, 1);
        x.insert(0, 0, 'c');
        x.erase(0, 2);
        x.insert(1, 0, 'd');
        x.sync(0, 1);
        x.sync(1, 0);
        due.is("after all that", x.code(0, 1), code);
        due.is("as it was made", code, 4 + 64 + 128 + 8192 * 'b' + 2097152L);
    }

    private static void executedUpToSix(Due due) {
        CountedSites x = Scenes.typed(3, "abcdef");
        for (int k = 0; k < 6; k++) {
            due.is("before number " + k, x.executed(2, 0), k);
            x.deliver(2, 0, k);
        }
        due.is("all", x.executed(2, 0), 6);
        due.is("none at site 1", x.executed(1, 0), 0);
        x.deliver(1, 0, 1);
        due.is("none, where one waits", x.executed(1, 0), 0);
    }

    private static void executedOwn(Due due) {
        CountedSites x = new CountedSites(2);
        for (int k = 0; k < 6; k++) {
            due.is("made", x.executed(1, 1), k);
            x.insert(1, 0, 'a');
        }
        due.is("made", x.executed(1, 1), 6);
        x.insert(1, 0, 'a');
        due.is("not one that was refused", x.executed(1, 1), 6);
        due.is("elsewhere none", x.executed(0, 1), 0);
    }

    private static void waitingUpToAll(Due due) {
        CountedSites x = Scenes.typed(3, "abcdef");
        x.sync(1, 0);
        for (int k = 0; k < 6; k++) {
            x.erase(1, 0);
        }
        int waiting = 0;
        due.is("none", x.waiting(2), waiting);
        for (int k = 5; k >= 0; k--) {
            x.deliver(2, 1, k);
            due.is("one more", x.waiting(2), ++waiting);
        }
        for (int k = 5; k > 0; k--) {
            x.deliver(2, 0, k);
            due.is("one more", x.waiting(2), ++waiting);
        }
        x.deliver(2, 0, 0);
        due.is("none is left", x.waiting(2), 0);
        due.is("elsewhere none", x.waiting(0) + x.waiting(1), 0);
    }

    private static void placeStays(Due due) {
        CountedSites x = Scenes.shared(2, "ab");
        due.is("its own", x.place(0, 0, 1), 1);
        x.insert(0, 0, 'x');
        due.is("its own, though it was pushed back", x.place(0, 0, 1), 1);
        x.insert(1, 0, 'y');
        x.insert(1, 0, 'z');
        x.sync(1, 0);
        due.is("where it was executed", x.place(1, 0, 2), 0);
        x.insert(1, 0, 'w');
        due.is("still", x.place(1, 0, 2), 0);
        x.sync(0, 1);
        due.is("y behind x", x.place(0, 1, 0), 1);
        due.is("z then where y was", x.place(0, 1, 1), 1);
        due.same("text", Dump.text(x, 0), "wxzyab");
        due.same("the copies", Dump.text(x, 1), Dump.text(x, 0));
    }

    private static void lengths(Due due) {
        CountedSites x = Scenes.eighteenCells();
        for (int s = 0; s < 3; s++) {
            due.is("eighteen", x.length(s), 18);
            due.same("text", Dump.text(x, s), "PMJGDAQNKHEBROLIFC");
        }
        CountedSites y = Scenes.shared(2, "ab");
        due.is("two", y.length(1), 2);
        y.erase(1, 1);
        due.is("one", y.length(1), 1);
        y.erase(1, 0);
        due.is("none", y.length(1), 0);
        due.is("not yet there", y.length(0), 2);
        due.is("of a new object", new CountedSites(2).length(1), 0);
    }

    private static void atEnds(Due due) {
        CountedSites x = Scenes.eighteenCells();
        due.is("the first", x.at(1, 0), 'P');
        due.is("the last of eighteen", x.at(1, 17), 'C');
        due.is("none behind eighteen", x.at(1, 18), NONE);
        CountedSites y = Scenes.shared(2, "abcde");
        y.erase(1, 4);
        y.erase(1, 2);
        y.erase(1, 0);
        due.is("the first visible one", y.at(1, 0), 'b');
        due.is("the last visible one", y.at(1, 1), 'd');
        due.is("none at how many are visible", y.at(1, 2), NONE);
    }

    private static void cellCounts(Due due) {
        CountedSites x = Scenes.eighteenCells();
        for (int s = 0; s < 3; s++) {
            due.is("eighteen", x.cells(s), 18);
        }
        CountedSites y = Scenes.shared(2, "ab");
        y.erase(1, 0);
        y.erase(1, 0);
        due.is("erased ones stay", y.cells(1), 2);
        due.is("of a new object", new CountedSites(2).cells(1), 0);
    }

    private static void cellEnds(Due due) {
        CountedSites x = Scenes.eighteenCells();
        due.is("the first", x.cell(2, 0), 'P');
        due.is("the last of eighteen", x.cell(2, 17), 'C');
        due.is("none behind it", x.cell(2, 18), 0);
    }

    private static void cellNegative(Due due) {
        CountedSites x = new CountedSites(2);
        x.insert(0, 0, 1);
        x.insert(0, 1, 255);
        x.insert(0, 2, 'a');
        x.erase(0, 0);
        x.erase(0, 0);
        due.same("cells", Dump.cells(x, 0), "-1 -255 97");
        x.sync(1, 0);
        due.same("there too", Dump.cells(x, 1), "-1 -255 97");
    }

    private static void noCell(Due due) {
        CountedSites x = Scenes.typed(2, "abc");
        x.erase(0, 2);
        int[][] none = {{0, 3}, {0, -1}, {0, 17}, {0, 18}, {0, LEAST}, {0, MOST}, {1, 0}, {1, -1},
            {2, 0}, {-1, 0}, {3, 0}, {LEAST, 0}, {MOST, 0}, {MOST, MOST}};
        for (int[] call : none) {
            due.is("cell " + call[1] + " of " + call[0], x.cell(call[0], call[1]), 0);
        }
        due.is("the third site's in three", new CountedSites(3).cell(2, 0), 0);
    }

    /** Site 1 has told of 2 of site 0's, and site 2 of 1; then site 2 tells of 3. */
    private static void stableLeast(Due due) {
        CountedSites x = Scenes.typed(3, "abc");
        x.deliver(1, 0, 0);
        x.deliver(1, 0, 1);
        x.insert(1, 0, 'p');
        x.deliver(2, 0, 0);
        x.insert(2, 0, 'q');
        x.sync(0, 1);
        x.sync(0, 2);
        due.is("site 2 knew the least", x.stable(0, 0), 1);
        x.sync(2, 0);
        x.insert(2, 0, 'r');
        x.sync(0, 2);
        due.is("then site 1", x.stable(0, 0), 2);
        due.is("site 2 knew p, site 1 made it", x.stable(0, 1), 1);
        due.is("site 1 knew none of site 2's", x.stable(0, 2), 0);
    }

    private static void stableItself(Due due) {
        CountedSites x = Scenes.shared(2, "abc");
        x.insert(1, 0, 'x');
        x.sync(0, 1);
        due.is("all that it made and the other knew", x.stable(0, 0), 3);
        x.insert(0, 0, 'd');
        due.is("never more than the other knew", x.stable(0, 0), 3);
        due.is("at site 1, that has not d", x.stable(1, 0), 3);
        x.sync(1, 0);
        due.is("that has it now", x.stable(1, 0), 4);
        due.is("its own", x.stable(1, 1), 1);
    }

    private static void stableLast(Due due) {
        CountedSites x = Scenes.typed(2, "abc");
        x.insert(1, 0, 'p');
        x.deliver(1, 0, 0);
        x.insert(1, 0, 'q');
        x.deliver(1, 0, 1);
        x.insert(1, 0, 'r');
        x.deliver(0, 1, 0);
        due.is("p knew none", x.stable(0, 0), 0);
        x.deliver(0, 1, 1);
        due.is("q knew one", x.stable(0, 0), 1);
        x.deliver(0, 1, 2);
        due.is("r knew two", x.stable(0, 0), 2);
        x.deliver(1, 0, 2);
        due.is("that it knows more now is not told", x.stable(0, 0), 2);
    }

    private static void stableNotWaiting(Due due) {
        CountedSites x = Scenes.typed(2, "a");
        x.insert(1, 0, 'p');
        x.sync(1, 0);
        x.insert(1, 0, 'q');
        x.deliver(0, 1, 1);
        due.is("q waits", x.stable(0, 0), 0);
        due.is("nor is it known to have been made", x.stable(0, 1), 0);
        x.deliver(0, 1, 0);
        due.is("q is executed", x.stable(0, 0), 1);
        due.is("both were made", x.stable(0, 1), 2);
    }

    private static void stableOneMore(Due due) {
        CountedSites x = Scenes.typed(2, "a");
        x.sync(1, 0);
        due.is("the first itself", x.stable(1, 0), 1);
        x.insert(0, 0, 'b');
        x.sync(1, 0);
        due.is("the second itself", x.stable(1, 0), 2);
        x.insert(1, 0, 'c');
        x.sync(0, 1);
        due.is("no 1 more of another's", x.stable(0, 0), 2);
        due.is("1 of its own", x.stable(0, 1), 1);
        x.insert(0, 0, 'd');
        due.is("no 1 more of what it made itself", x.stable(0, 0), 2);
    }

    private static void stableNoneHeard(Due due) {
        CountedSites x = Scenes.shared(3, "ab");
        x.insert(1, 0, 'c');
        x.sync(0, 1);
        due.is("site 2 has made none", x.stable(0, 0), 0);
        due.is("nor of site 1", x.stable(0, 1), 0);
        due.is("nor of its own", x.stable(0, 2), 0);
        x.insert(2, 0, 'd');
        due.is("it has made one, that has not come", x.stable(0, 0), 0);
        x.deliver(0, 2, 0);
        due.is("it has come", x.stable(0, 0), 2);
        CountedSites y = new CountedSites(3);
        for (int s = 0; s < 3; s++) {
            for (int of = 0; of < 3; of++) {
                due.is("of a new object", y.stable(s, of), 0);
            }
        }
    }

    /** Each site's sixth knows the most that it can; of those the last to come tells all but of itself. */
    private static void stableSix(Due due) {
        CountedSites x = Scenes.typed(2, "abcdef");
        x.sync(1, 0);
        for (int k = 0; k < 6; k++) {
            x.insert(1, 0, 'A' + k);
        }
        x.sync(0, 1);
        due.is("all six of site 0", x.stable(0, 0), 6);
        due.is("all six of site 1", x.stable(0, 1), 6);
        due.is("at site 1 all of site 0", x.stable(1, 0), 6);
        due.is("site 0 has told it of none", x.stable(1, 1), 0);
    }
}
