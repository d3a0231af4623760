/** Objects in states from which several tests set out. */
final class Scenes {
    private Scenes() {
    }

    /** An object at whose site 0 the text was typed. */
    static CountedSites typed(int sites, String text) {
        CountedSites x = new CountedSites(sites);
        for (int i = 0; i < text.length(); i++) {
            x.insert(0, i, text.charAt(i));
        }
        return x;
    }

    /** The text was typed at site 0 and is known at all sites. */
    static CountedSites shared(int sites, String text) {
        CountedSites x = typed(sites, text);
        x.sync(1, 0);
        if (sites == 3) {
            x.sync(2, 0);
        }
        return x;
    }

    /**
     * Site 0 has made a, b, c and erased b; at site 1 the first two were executed, the fourth waits,
     * and d was made behind them; at site 2 nothing came, and e was made.
     */
    static CountedSites middle(int sites) {
        CountedSites x = typed(sites, "abc");
        x.erase(0, 1);
        x.deliver(1, 0, 0);
        x.deliver(1, 0, 1);
        x.deliver(1, 0, 3);
        x.insert(1, 2, 'd');
        if (sites == 3) {
            x.insert(2, 0, 'e');
        }
        return x;
    }

    /** Each site has made its six operations, erases among them, and knows of none of the others'. */
    static CountedSites full(int sites) {
        CountedSites x = new CountedSites(sites);
        for (int s = 0; s < sites; s++) {
            for (int k = 0; k < 4; k++) {
                x.insert(s, 0, 'a' + 4 * s + k);
            }
            x.erase(s, 1);
            x.erase(s, 0);
        }
        return x;
    }

    /** Each site has made six inserts, and all know all of them: no cell more can be. */
    static CountedSites eighteenCells() {
        CountedSites x = new CountedSites(3);
        for (int k = 0; k < 18; k++) {
            x.insert(k % 3, 0, 65 + k);
        }
        x.sync(1, 0);
        x.sync(2, 1);
        x.sync(1, 2);
        x.sync(0, 2);
        return x;
    }
}
