/** Each sentence of 'What it is' and 'Terms' that names a boundary case, but for the refused calls. */
public final class TermsTest {
    public static void main(String[] args) {
        Sentences terms = new Sentences("TermsTest");
        terms.holds("used for at most 512 calls", TermsTest::allOf512Calls);
        terms.holds("what later calls answer is free (but they end, and throw nothing)", TermsTest::laterCalls);
        cellsAndOperations(terms);
        moves(terms);
        places(terms);
        arrivals(terms);
        codes(terms);
        terms.finish();
    }

    private static void cellsAndOperations(Sentences terms) {
        terms.holds("cells in a row, numbered from 0", TermsTest::cellsFromZero);
        terms.holds("each with a character (1 .. 255), visible or not", TermsTest::characters);
        terms.holds("at first there are no cells", TermsTest::noCellsAtFirst);
        terms.holds("a vector, which says for each site how many were executed here", TermsTest::vectors);
        terms.holds("a site makes at most 6 operations", TermsTest::atMostSix);
        terms.holds("number k (from 0) of site s is its k-th one", TermsTest::numbersFromZero);
        terms.holds("the vector that its site had when it made it, before it", TermsTest::contextBeforeIt);
        terms.holds("a new visible cell in front of cell p", TermsTest::inFront);
        terms.holds("behind all, if p is how many there are", TermsTest::behindAll);
        terms.holds("makes cell p invisible, if it isn't already", TermsTest::invisibleAlready);
        terms.holds("adds 1 to the vector's number for s", TermsTest::addsOne);
        terms.holds("it makes its own at the position in its cells and executes them at once", TermsTest::atOnce);
    }

    private static void moves(Sentences terms) {
        terms.holds("if y is an erase, p stays", TermsTest::pastAnErase);
        terms.holds("if y is an insert: p stays when p < q", TermsTest::inFrontOfAnInsert);
        terms.holds("and when p = q, x is an insert, and x's site is less", TermsTest::lowerSiteStays);
        terms.holds("else p + 1: p = q, x is an insert, and x's site is not less", TermsTest::higherSiteMoves);
        terms.holds("else p + 1: p = q, and x is an erase", TermsTest::eraseMoves);
        terms.holds("else p + 1: p > q", TermsTest::behindAnInsert);
    }

    private static void places(Sentences terms) {
        terms.holds("if v is x's context, it is x's position", TermsTest::contextItself);
        terms.holds("an operation that v has but x's context has not", TermsTest::onlyPastTheUnknown);
        terms.holds("number v(t) - 1 of a site t: all of them, one by one", TermsTest::pastAllOfASite);
        terms.holds("not in the context of any other operation that v has", TermsTest::notInAnotherContext);
        terms.holds("moved past y at the place of y for w", TermsTest::pastAMovedOne);
        terms.holds("all such y give the same place", TermsTest::samePlace);
        terms.holds("in a context when that says more than its number", TermsTest::inAContext);
        terms.holds("copies which have seen the same operations are the same", TermsTest::copiesAreTheSame);
        terms.holds("the same, for any three operations made at once, in any order", TermsTest::anyThreeInAnyOrder);
    }

    private static void arrivals(Sentences terms) {
        terms.holds("arrives at a site once at most", TermsTest::arrivesOnce);
        terms.holds("ready when the vector says for its own site exactly its number", TermsTest::exactlyItsNumber);
        terms.holds("and for each other site at least what its context says", TermsTest::atLeastItsContext);
        terms.holds("one that arrives and is not ready waits", TermsTest::waits);
        terms.holds("as long as one that waits is ready", TermsTest::oneFreesTheNext);
        terms.holds("that of the lowest site is executed", TermsTest::lowestFirst);
        terms.holds("the lowest site again after each one", TermsTest::lowestAfterEach);
    }

    private static void codes(Sentences terms) {
        terms.holds("the sum of: its site", TermsTest::codeOfSites);
        terms.holds("4 times its number", TermsTest::codeOfNumbers);
        terms.holds("64 if it is an insert", TermsTest::codeOfKinds);
        terms.holds("2^7 times its position", TermsTest::codeOfPositions);
        terms.holds("2^13 times its character", TermsTest::codeOfCharacters);
        terms.holds("(0 for an erase)", TermsTest::codeOfErases);
        terms.holds("2^21, 2^25 and 2^29 times what its context says", TermsTest::codeOfContexts);
        terms.holds("(0 for a site that there is not)", TermsTest::codeWithoutThirdSite);
        terms.holds("the greatest number, position, character and context at once", TermsTest::greatestCode);
    }

    /** What was built and asked with the last of the 512 calls is what a young object has. */
    private static void allOf512Calls(Due due) {
        for (int sites = 2; sites <= 3; sites++) {
            CountedSites young = new CountedSites(sites);
            String want = build(young) + Dump.of(young);
            CountedSites old = new CountedSites(sites);
            for (int n = CountedSites.MOST_CALLS - young.calls(); n > 0; n--) {
                old.sync(n % 4 - 1, n % 3);
            }
            due.same("what the last calls answer", build(old) + Dump.of(old), want);
            due.is("calls", old.calls(), CountedSites.MOST_CALLS);
        }
    }

    private static String build(CountedSites x) {
        StringBuilder answers = new StringBuilder();
        for (int k = 0; k < 6; k++) {
            for (int s = 0; s < 3; s++) {
                answers.append(k == 4 ? x.erase(s, 1) : x.insert(s, k / 2, 65 + 3 * k + s)).append(' ');
            }
        }
        for (int to = 0; to < 3; to++) {
            answers.append(x.deliver(to, (to + 1) % 3, 5)).append(' ').append(x.sync(to, (to + 1) % 3)).append(' ');
        }
        return answers.toString();
    }

    private static void laterCalls(Due due) {
        TombstoneSites x = new TombstoneSites(3);
        int[] odd = {Integer.MIN_VALUE, -1, 0, 1, 2, 3, 6, 19, 256, Integer.MAX_VALUE};
        int rounds = 0;
        for (int n = 0; n < 3000; n++) {
            int a = n % 4 - n % 3 / 2;
            int b = odd[n / 3 % odd.length];
            int c = odd[n / 7 % odd.length];
            askAll(x, a, b, c);
            rounds++;
        }
        due.is("rounds that ended", rounds, 3000);
    }

    private static void askAll(TombstoneSites x, int a, int b, int c) {
        x.insert(a, b, c);
        x.erase(a, b);
        x.deliver(a, b, c);
        x.arrive(a, x.code(b, c));
        x.sync(a, b);
        x.executed(a, b);
        x.waiting(a);
        x.place(a, b, c);
        x.length(a);
        x.at(a, b);
        x.cells(a);
        x.cell(a, b);
        x.stable(a, b);
    }

    private static void cellsFromZero(Due due) {
        CountedSites x = Scenes.typed(2, "abc");
        due.is("the first cell", x.cell(0, 0), 'a');
        due.is("the second", x.cell(0, 1), 'b');
        due.is("the last", x.cell(0, 2), 'c');
        due.is("none at how many there are", x.cell(0, 3), 0);
    }

    private static void characters(Due due) {
        for (int c : new int[] {1, 2, 127, 128, 254, 255}) {
            CountedSites x = new CountedSites(2);
            due.is("insert of " + c, x.insert(0, 0, c), 0);
            due.is("visible", x.cell(0, 0), c);
            due.is("by at", x.at(0, 0), c);
            due.is("executed elsewhere", x.deliver(1, 0, 0), 1);
            due.is("visible elsewhere", x.cell(1, 0), c);
            x.erase(0, 0);
            due.is("invisible", x.cell(0, 0), -c);
            x.deliver(1, 0, 1);
            due.is("invisible elsewhere", x.cell(1, 0), -c);
        }
    }

    private static void noCellsAtFirst(Due due) {
        CountedSites x = new CountedSites(3);
        for (int s = 0; s < 3; s++) {
            due.is("cells", x.cells(s), 0);
            due.is("cell 0", x.cell(s, 0), 0);
            due.is("visible ones", x.length(s), 0);
            due.is("first visible one", x.at(s, 0), TombstoneSites.NONE);
        }
    }

    private static void vectors(Due due) {
        CountedSites x = new CountedSites(3);
        for (int s = 0; s < 3; s++) {
            for (int of = 0; of < 3; of++) {
                due.is("at first", x.executed(s, of), 0);
            }
        }
        x.insert(1, 0, 'a');
        x.insert(1, 0, 'b');
        x.insert(2, 0, 'c');
        x.deliver(0, 1, 0);
        x.deliver(0, 2, 0);
        due.is("its own", x.executed(0, 0), 0);
        due.is("one of two of site 1", x.executed(0, 1), 1);
        due.is("the one of site 2", x.executed(0, 2), 1);
        due.is("at its own site", x.executed(1, 1), 2);
        due.is("nothing came", x.executed(1, 2), 0);
    }

    /** Inserts and erases count together, each site's for itself, and what arrives not at all. */
    private static void atMostSix(Due due) {
        CountedSites x = new CountedSites(3);
        for (int s = 0; s < 3; s++) {
            for (int k = 0; k < 6; k++) {
                due.is("operation " + k, k % 3 == 2 ? x.erase(s, 0) : x.insert(s, 0, 'a' + k), k);
            }
            due.is("a seventh insert", x.insert(s, 0, 'z'), TombstoneSites.NONE);
            due.is("a seventh erase", x.erase(s, 0), TombstoneSites.NONE);
            due.is("made", x.executed(s, s), 6);
        }
        due.is("six of site 0 come to 1", x.sync(1, 0), 6);
        due.is("twelve come to 2", x.sync(2, 1), 12);
        due.is("cells of all that were inserted", x.cells(2), 12);
        CountedSites y = Scenes.shared(2, "abcdef");
        for (int k = 0; k < 6; k++) {
            due.is("what came is not made here", y.erase(1, 0), k);
        }
        due.is("all six are invisible", y.length(1), 0);
    }

    private static void numbersFromZero(Due due) {
        CountedSites x = new CountedSites(2);
        due.is("the first", x.insert(1, 0, 'a'), 0);
        due.is("the second", x.insert(1, 1, 'b'), 1);
        due.is("the first elsewhere", x.insert(0, 0, 'c'), 0);
        due.is("code 0 is a's", x.code(1, 0) / 8192 % 256, 'a');
        due.is("code 1 is b's", x.code(1, 1) / 8192 % 256, 'b');
        due.is("a arrives as 0", x.deliver(0, 1, 0), 1);
        due.same("only a came", Dump.text(x, 0), "ca");
    }

    private static void contextBeforeIt(Due due) {
        CountedSites x = new CountedSites(3);
        x.insert(0, 0, 'a');
        due.is("the first knows nothing", x.code(0, 0) >> 21, 0);
        x.insert(0, 0, 'b');
        due.is("the second knows the first", x.code(0, 1) >> 21, 1);
        x.sync(1, 0);
        x.insert(1, 0, 'c');
        due.is("what came before it, and not itself", x.code(1, 0) >> 21, 2);
        x.insert(0, 0, 'd');
        x.deliver(1, 0, 2);
        due.is("not what came after it", x.code(1, 0) >> 21, 2);
        x.insert(0, 0, 'e');
        x.insert(0, 0, 'f');
        x.deliver(2, 0, 1);
        x.insert(2, 0, 'g');
        due.is("not what waits", x.code(2, 0) >> 21, 0);
    }

    private static void inFront(Due due) {
        CountedSites x = Scenes.typed(2, "abc");
        x.insert(0, 0, 'x');
        due.same("in front of the first", Dump.cells(x, 0), "120 97 98 99");
        x.insert(0, 3, 'y');
        due.same("in front of the last", Dump.cells(x, 0), "120 97 98 121 99");
        x.erase(0, 0);
        x.sync(1, 0);
        x.insert(1, 0, 'z');
        due.same("in front of a visible one, behind an invisible", Dump.cells(x, 1), "-120 122 97 98 121 99");
        due.is("it is visible", x.at(1, 0), 'z');
    }

    private static void behindAll(Due due) {
        CountedSites x = new CountedSites(2);
        due.is("where there are none", x.insert(0, 0, 'a'), 0);
        due.is("its place", x.place(0, 0, 0), 0);
        due.is("where there is one", x.insert(0, 1, 'b'), 1);
        due.is("its place", x.place(0, 0, 1), 1);
        due.is("both arrive", x.sync(1, 0), 2);
        x.erase(0, 1);
        due.is("behind an invisible last", x.insert(0, 1, 'c'), 3);
        due.is("its place is how many there were", x.place(0, 0, 3), 2);
        due.same("cells", Dump.cells(x, 0), "97 -98 99");
        due.is("both arrive", x.sync(1, 0), 2);
        due.same("behind all there too", Dump.cells(x, 1), "97 -98 99");
        CountedSites y = Scenes.shared(2, "ab");
        y.insert(0, 2, 'x');
        y.insert(1, 2, 'y');
        due.is("moved to behind all", y.deliver(0, 1, 0), 1);
        due.is("its place is how many there were", y.place(0, 1, 0), 3);
        due.same("text", Dump.text(y, 0), "abxy");
    }

    /** The second and the third erase of one cell leave it invisible, with its character. */
    private static void invisibleAlready(Due due) {
        CountedSites x = Scenes.shared(3, "abc");
        for (int s = 0; s < 3; s++) {
            x.erase(s, 1);
        }
        due.is("the second erase", x.deliver(0, 1, 0), 1);
        due.same("stays invisible", Dump.cells(x, 0), "97 -98 99");
        due.is("the third erase", x.deliver(0, 2, 0), 1);
        due.same("stays invisible", Dump.cells(x, 0), "97 -98 99");
        due.is("place of the third", x.place(0, 2, 0), 1);
        due.is("visible ones", x.length(0), 2);
        due.is("two come at once", x.sync(1, 0), 2);
        due.same("the copies", Dump.cells(x, 1), "97 -98 99");
    }

    private static void addsOne(Due due) {
        CountedSites x = Scenes.shared(2, "a");
        due.is("an insert", x.executed(1, 0), 1);
        x.erase(0, 0);
        due.is("its own erase", x.executed(0, 0), 2);
        x.erase(1, 0);
        x.deliver(1, 0, 1);
        due.is("an erase of what was invisible", x.executed(1, 0), 2);
        due.is("no other number", x.executed(1, 1), 1);
        x.insert(0, 0, 'b');
        x.insert(0, 0, 'c');
        x.deliver(1, 0, 3);
        due.is("one that waits adds nothing", x.executed(1, 0), 2);
        x.deliver(1, 0, 2);
        due.is("two at once", x.executed(1, 0), 4);
    }

    private static void atOnce(Due due) {
        CountedSites x = Scenes.shared(3, "ab");
        x.insert(1, 1, 'x');
        due.is("it was executed", x.executed(1, 1), 1);
        due.is("at its position", x.place(1, 1, 0), 1);
        due.same("the text has it", Dump.text(x, 1), "axb");
        due.is("nothing waits", x.waiting(1), 0);
        due.same("the others have it not", Dump.text(x, 0) + Dump.text(x, 2), "abab");
        x.erase(1, 1);
        due.same("nor the cell any more", Dump.cells(x, 1), "97 -120 98");
    }

    /**
     * The place at which x, made at place p, is executed at the site that has made y at place q;
     * all know four cells, and neither site knows of the other's.
     */
    private static int past(int siteX, boolean insertX, int p, int siteY, boolean insertY, int q) {
        CountedSites x = Scenes.shared(3, "abcd");
        int k = insertX ? x.insert(siteX, p, 'x') : x.erase(siteX, p);
        int n = insertY ? x.insert(siteY, q, 'y') : x.erase(siteY, q);
        if (k < 0 || n < 0 || x.place(siteX, siteX, k) != p || x.place(siteY, siteY, n) != q) {
            throw new IllegalStateException("x or y was not made where it should be");
        }
        return x.deliver(siteY, siteX, k) == 1 ? x.place(siteY, siteX, k) : -9;
    }

    private static void pastAnErase(Due due) {
        for (int pair = 0; pair < 6; pair++) {
            int a = firstOf(pair);
            int b = secondOf(pair);
            due.is("insert, p < q", past(a, true, 1, b, false, 2), 1);
            due.is("insert, p = q", past(a, true, 2, b, false, 2), 2);
            due.is("insert, p > q", past(a, true, 3, b, false, 2), 3);
            due.is("insert behind all", past(a, true, 4, b, false, 0), 4);
            due.is("erase, p < q", past(a, false, 0, b, false, 3), 0);
            due.is("erase, p = q", past(a, false, 2, b, false, 2), 2);
            due.is("erase, p > q", past(a, false, 3, b, false, 0), 3);
        }
    }

    private static void inFrontOfAnInsert(Due due) {
        for (int pair = 0; pair < 6; pair++) {
            int a = firstOf(pair);
            int b = secondOf(pair);
            due.is("insert, one in front", past(a, true, 1, b, true, 2), 1);
            due.is("insert, in front of behind all", past(a, true, 3, b, true, 4), 3);
            due.is("insert, far in front", past(a, true, 0, b, true, 4), 0);
            due.is("erase, one in front", past(a, false, 1, b, true, 2), 1);
            due.is("erase of the last, insert behind all", past(a, false, 3, b, true, 4), 3);
            due.is("erase, far in front", past(a, false, 0, b, true, 4), 0);
        }
    }

    private static void lowerSiteStays(Due due) {
        for (int p = 0; p <= 4; p++) {
            due.is("0 and 1 at " + p, past(0, true, p, 1, true, p), p);
            due.is("0 and 2 at " + p, past(0, true, p, 2, true, p), p);
            due.is("1 and 2 at " + p, past(1, true, p, 2, true, p), p);
        }
    }

    private static void higherSiteMoves(Due due) {
        for (int p = 0; p <= 4; p++) {
            due.is("1 and 0 at " + p, past(1, true, p, 0, true, p), p + 1);
            due.is("2 and 0 at " + p, past(2, true, p, 0, true, p), p + 1);
            due.is("2 and 1 at " + p, past(2, true, p, 1, true, p), p + 1);
        }
    }

    private static void eraseMoves(Due due) {
        for (int pair = 0; pair < 6; pair++) {
            for (int p = 0; p < 4; p++) {
                due.is("pair " + pair + " at " + p, past(firstOf(pair), false, p, secondOf(pair), true, p), p + 1);
            }
        }
    }

    private static void behindAnInsert(Due due) {
        for (int pair = 0; pair < 6; pair++) {
            int a = firstOf(pair);
            int b = secondOf(pair);
            due.is("insert, one behind", past(a, true, 2, b, true, 1), 3);
            due.is("insert behind all", past(a, true, 4, b, true, 0), 5);
            due.is("erase, one behind", past(a, false, 2, b, true, 1), 3);
            due.is("erase of the last", past(a, false, 3, b, true, 0), 4);
        }
    }

    /** The six pairs of two of the three sites: 0 1, 0 2, 1 0, 1 2, 2 0, 2 1. */
    private static int firstOf(int pair) {
        return pair / 2;
    }

    private static int secondOf(int pair) {
        int other = pair % 2;
        return other < firstOf(pair) ? other : other + 1;
    }

    private static void contextItself(Due due) {
        CountedSites x = Scenes.shared(3, "abc");
        x.insert(2, 1, 'x');
        x.erase(2, 3);
        due.is("x", x.deliver(1, 2, 0), 1);
        due.is("its place is its position", x.place(1, 2, 0), 1);
        due.is("the erase", x.deliver(1, 2, 1), 1);
        due.is("its place is its position", x.place(1, 2, 1), 3);
        due.same("cells", Dump.cells(x, 1), "97 120 98 -99");
    }

    /** What x's maker knew moves nothing, though it stands in front of x. */
    private static void onlyPastTheUnknown(Due due) {
        CountedSites x = Scenes.shared(3, "ab");
        x.insert(1, 0, 'k');
        x.sync(2, 1);
        x.insert(2, 3, 'x');
        x.insert(1, 0, 'u');
        due.is("x at site 1", x.deliver(1, 2, 0), 1);
        due.is("past u, and not past k, a and b", x.place(1, 2, 0), 4);
        due.same("text", Dump.text(x, 1), "ukabx");
    }

    private static void pastAllOfASite(Due due) {
        CountedSites x = new CountedSites(2);
        x.insert(1, 0, 'x');
        for (int k = 0; k < 6; k++) {
            x.insert(0, k, 'a' + k);
        }
        due.is("x past six", x.deliver(0, 1, 0), 1);
        due.is("its place", x.place(0, 1, 0), 6);
        due.is("six past x", x.sync(1, 0), 6);
        due.is("the last one's place", x.place(1, 0, 5), 5);
        due.same("text", Dump.text(x, 1), "abcdefx");
    }

    /** z's maker knew y: x is moved past y first and then past z, though y's site is the lower. */
    private static void notInAnotherContext(Due due) {
        CountedSites x = new CountedSites(3);
        x.insert(0, 0, 'y');
        x.sync(1, 0);
        x.insert(1, 1, 'z');
        x.insert(2, 0, 'x');
        due.is("x at site 1", x.deliver(1, 2, 0), 1);
        due.is("x past y and z", x.place(1, 2, 0), 2);
        due.is("y and z at site 2", x.sync(2, 1), 2);
        due.is("z in front of x", x.place(2, 1, 0), 1);
        due.same("text", Dump.text(x, 1), "yzx");
        due.same("the copies", Dump.cells(x, 2), Dump.cells(x, 1));
        knownOneOfHigherSite(due);
    }

    /** The same with the sites turned: the one that is known is of the higher site. */
    private static void knownOneOfHigherSite(Due due) {
        CountedSites x = new CountedSites(3);
        x.insert(2, 0, 'y');
        x.sync(1, 2);
        x.insert(1, 0, 'z');
        x.insert(0, 0, 'x');
        due.is("x at site 1", x.deliver(1, 0, 0), 1);
        due.is("x in front of z and y", x.place(1, 0, 0), 0);
        due.is("y at site 0", x.deliver(0, 2, 0), 1);
        due.is("y behind x", x.place(0, 2, 0), 1);
        due.is("z at site 0", x.deliver(0, 1, 0), 1);
        due.is("z between", x.place(0, 1, 0), 1);
        due.same("text", Dump.text(x, 0), "xzy");
        due.same("the copies", Dump.cells(x, 0), Dump.cells(x, 1));
    }

    /** y did not know z, x did: x meets y where z has pushed it. */
    private static void pastAMovedOne(Due due) {
        CountedSites x = Scenes.shared(3, "ab");
        x.insert(2, 0, 'z');
        x.insert(1, 1, 'y');
        x.deliver(0, 2, 0);
        x.insert(0, 2, 'x');
        due.is("z at site 1", x.deliver(1, 2, 0), 1);
        due.is("x at site 1", x.deliver(1, 0, 2), 1);
        due.is("x at y's place, as the lower site's", x.place(1, 0, 2), 2);
        due.is("y at site 0", x.deliver(0, 1, 0), 1);
        due.is("y past z and x", x.place(0, 1, 0), 3);
        due.same("text", Dump.text(x, 1), "zaxyb");
        due.same("the copies", Dump.cells(x, 0), Dump.cells(x, 1));
    }

    /** x comes to sites that have executed y and z, which knew nothing of each other, in both orders. */
    private static void samePlace(Due due) {
        for (int maker = 0; maker < 3; maker++) {
            CountedSites x = Scenes.shared(3, "ab");
            int y = (maker + 1) % 3;
            int z = (maker + 2) % 3;
            int k = x.insert(maker, 1, 'x');
            x.insert(y, 1, 'y');
            x.insert(z, 0, 'z');
            x.sync(y, z);
            x.sync(z, y);
            due.is("x where y was first", x.deliver(y, maker, k), 1);
            due.is("x where z was first", x.deliver(z, maker, k), 1);
            due.is("its places", x.place(y, maker, k), x.place(z, maker, k));
            due.is("in front of y if its site is less", x.place(y, maker, k), maker < y ? 2 : 3);
        }
    }

    /** The context of x says 1 of site 0: number 0 is in it, number 1 is not. */
    private static void inAContext(Due due) {
        CountedSites x = new CountedSites(2);
        x.insert(0, 0, 'a');
        x.deliver(1, 0, 0);
        x.insert(1, 1, 'x');
        x.insert(0, 1, 'b');
        due.is("x past number 1", x.deliver(0, 1, 0), 1);
        due.is("and not past number 0", x.place(0, 1, 0), 2);
        due.is("number 1 at site 1", x.deliver(1, 0, 1), 1);
        due.is("in front of x", x.place(1, 0, 1), 1);
        due.same("text", Dump.text(x, 0), "abx");
        due.same("the copies", Dump.cells(x, 1), Dump.cells(x, 0));
    }

    private static void copiesAreTheSame(Due due) {
        for (int sites = 2; sites <= 3; sites++) {
            CountedSites x = Scenes.full(sites);
            for (int k = 5; k >= 0; k--) {
                for (int s = 0; s < sites; s++) {
                    x.deliver((s + 1) % sites, s, k);
                    x.deliver((s + 2) % sites, s, 5 - k);
                }
            }
            for (int s = 0; s < sites; s++) {
                due.is("all are executed", x.executed(s, 0) + x.executed(s, 1) + Math.max(0, x.executed(s, 2)), 6 * sites);
                due.same("copy " + s, Dump.cells(x, s), sites == 2 ? "-100 -99 98 97 -104 -103 102 101"
                    : "-100 -99 98 97 -104 -103 102 101 -108 -107 106 105");
            }
        }
    }

    /**
     * Five cells are enough for all cases: places further apart than two do not meet by moving past
     * two operations. That all such y give the same place follows, for y and z are then, with x, three
     * operations of three sites of which none knew of another.
     */
    private static void anyThreeInAnyOrder(Due due) {
        for (int n = 0; n < 11 * 11 * 11; n++) {
            int[] made = {n % 11, n / 11 % 11, n / 121};
            String upward = afterAllThree(due, made, 1);
            String downward = afterAllThree(due, made, 2);
            due.same("operations " + n + ", in the other orders", downward, upward);
        }
    }

    /** The cells of all sites, where each had its own, then the one a step further, then the last. */
    private static String afterAllThree(Due due, int[] made, int step) {
        CountedSites x = Scenes.shared(3, "abcde");
        int[] number = new int[3];
        for (int s = 0; s < 3; s++) {
            number[s] = made[s] < 6 ? x.insert(s, made[s], 'x' + s) : x.erase(s, made[s] - 6);
        }
        for (int s = 0; s < 3; s++) {
            int next = (s + step) % 3;
            int last = (s + 2 * step) % 3;
            due.is("the next one", x.deliver(s, next, number[next]), 1);
            due.is("the last one", x.deliver(s, last, number[last]), 1);
        }
        due.same("copy 1", Dump.cells(x, 1), Dump.cells(x, 0));
        due.same("copy 2", Dump.cells(x, 2), Dump.cells(x, 0));
        return Dump.cells(x, 0);
    }

    private static void arrivesOnce(Due due) {
        int none = TombstoneSites.NONE;
        CountedSites x = Scenes.typed(3, "abc");
        due.is("one that is executed", x.deliver(1, 0, 0), 1);
        due.is("a second time", x.deliver(1, 0, 0), none);
        due.is("by its code", x.arrive(1, x.code(0, 0)), none);
        due.is("one that waits", x.deliver(1, 0, 2), 0);
        due.is("a second time", x.deliver(1, 0, 2), none);
        due.is("by its code", x.arrive(1, x.code(0, 2)), none);
        due.is("it waits once", x.waiting(1), 1);
        due.is("by sync those that are left", x.sync(1, 0), 2);
        due.is("what sync brought", x.deliver(1, 0, 1), none);
        due.is("what waited", x.deliver(1, 0, 2), none);
        due.is("all of them once", x.cells(1), 3);
        due.is("at another site it is the first time", x.deliver(2, 0, 0), 1);
    }

    private static void exactlyItsNumber(Due due) {
        CountedSites x = Scenes.typed(2, "abcdef");
        due.is("number 5 where 0 were executed", x.deliver(1, 0, 5), 0);
        due.is("number 1 where 0 were executed", x.deliver(1, 0, 1), 0);
        due.is("number 0 where 0 were, and 1 is then", x.deliver(1, 0, 0), 2);
        due.is("number 3 where 2 were", x.deliver(1, 0, 3), 0);
        due.is("number 2 where 2 were", x.deliver(1, 0, 2), 2);
        due.is("number 5 waits still", x.waiting(1), 1);
        due.is("number 4 where 4 were", x.deliver(1, 0, 4), 2);
        due.same("text", Dump.text(x, 1), "abcdef");
    }

    private static void atLeastItsContext(Due due) {
        CountedSites x = Scenes.typed(3, "ab");
        x.deliver(1, 0, 0);
        x.insert(1, 1, 'x');
        due.is("the context says 1, here are 2", x.deliver(0, 1, 0), 1);
        due.is("the context says 1, here are 0", x.deliver(2, 1, 0), 0);
        due.is("the context says 1, and 1 is here", x.deliver(2, 0, 0), 2);
        CountedSites y = Scenes.typed(3, "abc");
        y.sync(1, 0);
        y.insert(1, 0, 'y');
        y.deliver(2, 0, 0);
        y.deliver(2, 0, 1);
        due.is("the context says 3, here are 2", y.deliver(2, 1, 0), 0);
        due.is("the third comes", y.deliver(2, 0, 2), 2);
        atLeastOfEachSite(due);
    }

    /** z knows one operation of each of the other sites, and its own site's are all here. */
    private static void atLeastOfEachSite(Due due) {
        for (int maker = 0; maker < 3; maker++) {
            int a = (maker + 1) % 3;
            int to = (maker + 2) % 3;
            CountedSites x = new CountedSites(3);
            x.insert(a, 0, 'a');
            x.insert(to, 0, 'b');
            x.sync(maker, a);
            x.sync(maker, to);
            x.insert(maker, 0, 'z');
            due.is("its own is known here, the other's not", x.deliver(to, maker, 0), 0);
            due.is("the other's comes", x.deliver(to, a, 0), 2);
            due.is("at " + a + " it waits for " + to, x.deliver(a, maker, 0), 0);
            due.is("that comes", x.sync(a, to), 2);
            due.same("the copies", Dump.cells(x, a), Dump.cells(x, to));
        }
    }

    private static void waits(Due due) {
        CountedSites x = Scenes.typed(2, "ab");
        due.is("nothing is executed", x.deliver(1, 0, 1), 0);
        due.is("it waits", x.waiting(1), 1);
        due.is("no cell", x.cells(1), 0);
        due.is("not in the vector", x.executed(1, 0), 0);
        due.is("no place", x.place(1, 0, 1), TombstoneSites.NONE);
        x.insert(1, 0, 'c');
        due.is("an own one frees nothing", x.waiting(1), 1);
        due.is("the one before it", x.deliver(1, 0, 0), 2);
        due.is("none waits", x.waiting(1), 0);
        due.is("moved past what was made meanwhile", x.place(1, 0, 1), 1);
        due.same("text", Dump.text(x, 1), "abc");
    }

    /** Five operations of one site, and then operations of three sites, each freed by the one before. */
    private static void oneFreesTheNext(Due due) {
        CountedSites x = Scenes.typed(2, "abcdef");
        for (int k = 5; k > 0; k--) {
            due.is("number " + k, x.deliver(1, 0, k), 0);
        }
        due.is("five wait", x.waiting(1), 5);
        due.is("all six", x.deliver(1, 0, 0), 6);
        CountedSites y = new CountedSites(3);
        y.insert(1, 0, 'a');
        y.sync(0, 1);
        y.insert(0, 1, 'b');
        y.sync(1, 0);
        y.insert(1, 2, 'c');
        y.sync(0, 1);
        y.insert(0, 3, 'd');
        due.is("d waits for c", y.deliver(2, 0, 1), 0);
        due.is("c waits for b", y.deliver(2, 1, 1), 0);
        due.is("b waits for a", y.deliver(2, 0, 0), 0);
        due.is("a frees all", y.deliver(2, 1, 0), 4);
        due.same("text", Dump.text(y, 2), "abcd");
    }

    /** p and q wait for m: p, of site 0, is executed first, so that q does not yet stand in front of it. */
    private static void lowestFirst(Due due) {
        CountedSites x = new CountedSites(3);
        x.insert(1, 0, 'm');
        x.sync(0, 1);
        x.insert(0, 1, 'p');
        x.insert(1, 0, 'q');
        due.is("q waits", x.deliver(2, 1, 1), 0);
        due.is("p waits", x.deliver(2, 0, 0), 0);
        due.is("m frees both", x.deliver(2, 1, 0), 3);
        due.is("p was executed first", x.place(2, 0, 0), 1);
        due.is("q then", x.place(2, 1, 1), 0);
        due.same("text", Dump.text(x, 2), "qmp");
        lowestOfHigherSites(due);
    }

    /** At site 0, q of site 1 and p of site 2 wait for m of site 2. */
    private static void lowestOfHigherSites(Due due) {
        CountedSites x = new CountedSites(3);
        x.insert(2, 0, 'm');
        x.sync(1, 2);
        x.insert(1, 1, 'q');
        x.insert(2, 0, 'p');
        due.is("p waits", x.deliver(0, 2, 1), 0);
        due.is("q waits", x.deliver(0, 1, 0), 0);
        due.is("m frees both", x.deliver(0, 2, 0), 3);
        due.is("q was executed first", x.place(0, 1, 0), 1);
        due.is("p then", x.place(0, 2, 1), 0);
        due.same("text", Dump.text(x, 0), "pmq");
    }

    /** m frees n, of site 1; n frees o of site 1 and p of site 0, and p comes first. */
    private static void lowestAfterEach(Due due) {
        CountedSites x = new CountedSites(3);
        x.insert(1, 0, 'm');
        x.insert(1, 1, 'n');
        x.sync(0, 1);
        x.insert(0, 2, 'p');
        x.insert(1, 0, 'o');
        due.is("o waits", x.deliver(2, 1, 2), 0);
        due.is("p waits", x.deliver(2, 0, 0), 0);
        due.is("n waits", x.deliver(2, 1, 1), 0);
        due.is("m frees all", x.deliver(2, 1, 0), 4);
        due.is("p before o", x.place(2, 0, 0), 2);
        due.is("o then", x.place(2, 1, 2), 0);
        due.same("text", Dump.text(x, 2), "omnp");
    }

    private static void codeOfSites(Due due) {
        CountedSites x = new CountedSites(3);
        for (int s = 0; s < 3; s++) {
            x.insert(s, 0, 1);
            due.is("site " + s, x.code(s, 0), s + 64L + 8192);
        }
    }

    private static void codeOfNumbers(Due due) {
        CountedSites x = new CountedSites(3);
        for (int k = 0; k < 6; k++) {
            x.insert(1, 0, 1);
            due.is("number " + k, x.code(1, k), 1 + 4 * k + 64L + 8192 + 33554432L * k);
        }
    }

    private static void codeOfKinds(Due due) {
        CountedSites x = new CountedSites(2);
        x.insert(0, 0, 1);
        due.is("an insert", x.code(0, 0), 64 + 8192L);
        x.erase(0, 0);
        due.is("an erase", x.code(0, 1), 4 + 2097152L);
    }

    private static void codeOfPositions(Due due) {
        for (int p = 0; p <= 5; p++) {
            CountedSites x = Scenes.shared(2, "abcde");
            x.insert(1, p, 1);
            due.is("insert at " + p, x.code(1, 0), 1 + 64 + 128L * p + 8192 + 5 * 2097152L);
            if (p < 5) {
                x.erase(0, p);
                due.is("erase at " + p, x.code(0, 5), 20 + 128L * p + 5 * 2097152L);
            }
        }
        CountedSites y = Scenes.shared(2, "abc");
        y.erase(0, 0);
        y.erase(0, 0);
        due.is("the position counts invisible cells", y.code(0, 4), 16 + 128L + 4 * 2097152L);
        y.insert(0, 1, 1);
        due.is("behind all", y.code(0, 5), 20 + 64 + 3 * 128L + 8192 + 5 * 2097152L);
    }

    private static void codeOfCharacters(Due due) {
        for (int c = 1; c <= 255; c++) {
            CountedSites x = new CountedSites(2);
            x.insert(0, 0, c);
            due.is("character " + c, x.code(0, 0), 64 + 8192L * c);
        }
    }

    private static void codeOfErases(Due due) {
        CountedSites x = new CountedSites(2);
        x.insert(1, 0, 255);
        x.erase(1, 0);
        due.is("no character in it", x.code(1, 1), 1 + 4 + 33554432L);
        due.is("the insert's stays", x.code(1, 0), 1 + 64 + 8192L * 255);
    }

    private static void codeOfContexts(Due due) {
        long[] weights = {2097152L, 33554432L, 536870912L};
        for (int known = 0; known < 3; known++) {
            int maker = (known + 1) % 3;
            CountedSites x = new CountedSites(3);
            for (int n = 1; n <= 6; n++) {
                x.insert(known, 0, 'a');
                x.deliver(maker, known, n - 1);
                x.insert(maker, 0, 1);
                long want = maker + 4 * (n - 1) + 64 + 8192 + weights[known] * n + weights[maker] * (n - 1);
                due.is(n + " of site " + known, x.code(maker, n - 1), want);
            }
        }
    }

    private static void codeWithoutThirdSite(Due due) {
        CountedSites x = new CountedSites(2);
        for (int k = 0; k < 6; k++) {
            x.insert(1, k, 1);
        }
        x.sync(0, 1);
        for (int k = 0; k < 6; k++) {
            x.insert(0, 0, 1);
        }
        due.is("nothing from 2^29 on", x.code(0, 5) / 536870912L, 0);
        due.is("all the rest", x.code(0, 5), 20 + 64 + 8192 + 5 * 2097152L + 6 * 33554432L);
    }

    private static void greatestCode(Due due) {
        CountedSites x = new CountedSites(3);
        for (int k = 0; k < 6; k++) {
            x.insert(2, k, 255);
            x.insert(1, k, 255);
        }
        x.sync(1, 2);
        x.sync(0, 1);
        for (int k = 0; k < 6; k++) {
            x.insert(0, 12 + k, 255);
        }
        long want = 20 + 64 + 17 * 128L + 255 * 8192L + 5 * 2097152L + 6 * 33554432L + 6 * 536870912L;
        due.is("the last of 18", x.code(0, 5), want);
        due.is("it arrives and waits", x.arrive(1, want), 0);
        due.is("with what it knows", x.sync(1, 0), 6);
        due.is("its place", x.place(1, 0, 5), 17);
        due.is("eighteen cells", x.cells(1), 18);
    }
}
