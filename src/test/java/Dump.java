/** What the class can be asked without a change, as one text: for comparing states. */
final class Dump {
    private Dump() {
    }

    /** At most 160 calls, so that an object can be looked at twice. */
    static String of(CountedSites x) {
        StringBuilder text = new StringBuilder();
        int sites = x.sites();
        for (int s = 0; s < sites; s++) {
            text.append(" | site ").append(s).append(": waiting ").append(x.waiting(s));
            text.append(" length ").append(x.length(s)).append(" cells ").append(cells(x, s));
            for (int of = 0; of < sites; of++) {
                text.append(" of ").append(of).append(": executed ").append(x.executed(s, of));
                text.append(" stable ").append(x.stable(s, of)).append(" places");
                for (int k = 0; k < 6; k++) {
                    text.append(' ').append(x.place(s, of, k));
                }
            }
            text.append(" codes");
            for (int k = 0; k < 6; k++) {
                text.append(' ').append(x.code(s, k));
            }
        }
        return text.toString();
    }

    /** The cells of a site, the invisible ones negative. */
    static String cells(CountedSites x, int site) {
        StringBuilder text = new StringBuilder();
        int cells = x.cells(site);
        for (int i = 0; i < cells; i++) {
            text.append(i == 0 ? "" : " ").append(x.cell(site, i));
        }
        return text.toString();
    }

    /** The visible text of a site. */
    static String text(CountedSites x, int site) {
        StringBuilder text = new StringBuilder();
        int length = x.length(site);
        for (int i = 0; i < length; i++) {
            text.append((char) x.at(site, i));
        }
        return text.toString();
    }
}
