import java.util.ArrayList;
import java.util.Arrays;
import java.util.HashMap;
import java.util.HashSet;
import java.util.List;
import java.util.Map;
import java.util.Set;

/** The document's words, followed as plainly as can be and without thought for speed. */
final class PlainModel {
    static final class Op {
        int site;
        int number;
        boolean insert;
        int character;
        int position;
        int[] context;
    }

    static final class Site {
        List<Integer> characters = new ArrayList<>();
        List<Boolean> visible = new ArrayList<>();
        int[] vector = new int[3];
        Set<Op> arrived = new HashSet<>();
        List<Op> waiting = new ArrayList<>();
        Map<Op, Integer> places = new HashMap<>();
    }

    final int count;
    final Site[] sites;
    final List<List<Op>> made = new ArrayList<>();
    private final Map<String, Integer> places = new HashMap<>();

    PlainModel(int sites) {
        count = sites == 3 ? 3 : 2;
        this.sites = new Site[count];
        for (int s = 0; s < count; s++) {
            this.sites[s] = new Site();
            made.add(new ArrayList<>());
        }
    }

    int sites() {
        return count;
    }

    int insert(int site, int i, int c) {
        if (no(site) || i < 0 || i > length(site) || c < 1 || c > 255 || made.get(site).size() == 6) {
            return -1;
        }
        Site here = sites[site];
        int p = i == length(site) ? here.characters.size() : visibleCell(here, i);
        return make(site, true, c, p);
    }

    int erase(int site, int i) {
        if (no(site) || i < 0 || i > length(site) - 1 || made.get(site).size() == 6) {
            return -1;
        }
        return make(site, false, 0, visibleCell(sites[site], i));
    }

    int deliver(int to, int from, int k) {
        if (no(to) || no(from) || to == from || k < 0 || k >= made.get(from).size()) {
            return -1;
        }
        Op x = made.get(from).get(k);
        if (sites[to].arrived.contains(x)) {
            return -1;
        }
        sites[to].arrived.add(x);
        if (!ready(sites[to], x)) {
            sites[to].waiting.add(x);
            return 0;
        }
        execute(sites[to], x);
        return 1 + executeWaiting(sites[to]);
    }

    int arrive(int to, long code) {
        for (int s = 0; s < count; s++) {
            for (int k = 0; k < made.get(s).size(); k++) {
                if (code(s, k) == code) {
                    return deliver(to, s, k);
                }
            }
        }
        return -1;
    }

    int sync(int to, int from) {
        if (no(to) || no(from) || to == from) {
            return -1;
        }
        int done = 0;
        for (int s = 0; s < count; s++) {
            for (Op x : made.get(s)) {
                if (s != to && sites[from].places.containsKey(x) && !sites[to].arrived.contains(x)) {
                    done += deliver(to, s, x.number);
                }
            }
        }
        return done;
    }

    long code(int site, int k) {
        if (no(site) || k < 0 || k >= made.get(site).size()) {
            return -1;
        }
        Op x = made.get(site).get(k);
        return x.site + 4L * x.number + (x.insert ? 64L : 0L) + 128L * x.position
            + 8192L * x.character + 2097152L * x.context[0] + 33554432L * x.context[1]
            + 536870912L * x.context[2];
    }

    int executed(int site, int of) {
        return no(site) || no(of) ? -1 : sites[site].vector[of];
    }

    int waiting(int site) {
        return no(site) ? -1 : sites[site].waiting.size();
    }

    int place(int site, int of, int k) {
        if (no(site) || no(of) || k < 0 || k >= made.get(of).size()) {
            return -1;
        }
        return sites[site].places.getOrDefault(made.get(of).get(k), -1);
    }

    int length(int site) {
        if (no(site)) {
            return -1;
        }
        int n = 0;
        for (boolean v : sites[site].visible) {
            n += v ? 1 : 0;
        }
        return n;
    }

    int at(int site, int i) {
        if (no(site) || i < 0 || i >= length(site)) {
            return -1;
        }
        return sites[site].characters.get(visibleCell(sites[site], i));
    }

    int cells(int site) {
        return no(site) ? -1 : sites[site].characters.size();
    }

    int cell(int site, int i) {
        if (no(site) || i < 0 || i >= cells(site)) {
            return 0;
        }
        int c = sites[site].characters.get(i);
        return sites[site].visible.get(i) ? c : -c;
    }

    int stable(int site, int of) {
        if (no(site) || no(of)) {
            return -1;
        }
        int least = 99;
        for (int j = 0; j < count; j++) {
            int known = 0;
            if (j == site) {
                known = sites[site].vector[of];
            } else if (sites[site].vector[j] > 0) {
                Op last = made.get(j).get(sites[site].vector[j] - 1);
                known = last.context[of] + (of == j ? 1 : 0);
            }
            least = Math.min(least, known);
        }
        return least;
    }

    private boolean no(int site) {
        return site < 0 || site >= count;
    }

    private int make(int site, boolean insert, int character, int position) {
        Op x = new Op();
        x.site = site;
        x.number = made.get(site).size();
        x.insert = insert;
        x.character = character;
        x.position = position;
        x.context = sites[site].vector.clone();
        made.get(site).add(x);
        execute(sites[site], x);
        return x.number;
    }

    private static int visibleCell(Site here, int i) {
        int seen = -1;
        for (int p = 0; p < here.visible.size(); p++) {
            seen += here.visible.get(p) ? 1 : 0;
            if (seen == i) {
                return p;
            }
        }
        throw new IllegalStateException();
    }

    private boolean ready(Site here, Op x) {
        for (int s = 0; s < count; s++) {
            if (s == x.site ? here.vector[s] != x.number : here.vector[s] < x.context[s]) {
                return false;
            }
        }
        return true;
    }

    private int executeWaiting(Site here) {
        int done = 0;
        while (true) {
            Op lowest = null;
            for (Op x : here.waiting) {
                if (ready(here, x) && (lowest == null || x.site < lowest.site)) {
                    lowest = x;
                }
            }
            if (lowest == null) {
                return done;
            }
            here.waiting.remove(lowest);
            execute(here, lowest);
            done++;
        }
    }

    private void execute(Site here, Op x) {
        int p = placeFor(x, here.vector);
        if (x.insert) {
            here.characters.add(p, x.character);
            here.visible.add(p, true);
        } else {
            here.visible.set(p, false);
        }
        here.places.put(x, p);
        here.vector[x.site]++;
    }

    /** Goes through every y that the document allows, and holds it to its word that all agree. */
    private int placeFor(Op x, int[] v) {
        if (Arrays.equals(v, x.context)) {
            return x.position;
        }
        String key = x.site + " " + x.number + Arrays.toString(v);
        Integer found = places.get(key);
        for (int t = 0; t < count && !places.containsKey(key); t++) {
            if (v[t] > x.context[t] && inNoContext(t, v)) {
                Op y = made.get(t).get(v[t] - 1);
                int[] w = v.clone();
                w[t]--;
                int place = moved(x, placeFor(x, w), y, placeFor(y, w));
                if (found != null && found != place) {
                    throw new IllegalStateException("two places for " + key);
                }
                found = place;
            }
        }
        places.put(key, found);
        return found;
    }

    private boolean inNoContext(int t, int[] v) {
        for (int s = 0; s < count; s++) {
            for (int k = 0; k < v[s]; k++) {
                boolean other = s != t || k != v[t] - 1;
                if (other && made.get(s).get(k).context[t] > v[t] - 1) {
                    return false;
                }
            }
        }
        return true;
    }

    private static int moved(Op x, int p, Op y, int q) {
        if (!y.insert) {
            return p;
        }
        if (p < q) {
            return p;
        }
        if (p == q && x.insert && x.site < y.site) {
            return p;
        }
        return p + 1;
    }
}
