import java.util.Random;

/** Runs of calls, wild ones among them, against the plain model; and copies that must agree. */
public final class ModelTest {
    private static final int RUNS = 12000;
    private static final int[] ODD = {Integer.MIN_VALUE, -2, -1, 3, 6, 7, 19, 256, Integer.MAX_VALUE};

    private final Due due;
    private final Random random;
    private final CountedSites x;
    private final PlainModel model;
    private final int run;
    private final int erases;
    private final int nearness;

    private ModelTest(Due due, int run) {
        this.due = due;
        this.run = run;
        random = new Random(run);
        int sites = run % 3 == 0 ? 2 : 3;
        x = new CountedSites(sites);
        model = new PlainModel(sites);
        erases = random.nextInt(5);
        nearness = 1 + random.nextInt(4);
    }

    public static void main(String[] args) {
        Sentences model = new Sentences("ModelTest");
        model.holds("all that the document says, in random runs", ModelTest::walkAll);
        model.finish();
    }

    private static void walkAll(Due due) {
        for (int run = 0; run < RUNS && (run == 0 || due.allRight()); run++) {
            new ModelTest(due, run).walk();
        }
    }

    /** A look at everything costs half of an object's calls, so there is one, at a chance moment or at the end. */
    private void walk() {
        int calls = 5 + random.nextInt(100);
        for (int n = 0; n < calls; n++) {
            change();
            ask(site(), site(), odd(random.nextInt(6)));
        }
        if (run % 2 == 0) {
            bringTogether();
        } else {
            compareAll();
        }
    }

    private void change() {
        int to = site();
        switch (random.nextInt(9)) {
            case 0, 1, 2 -> make(to);
            case 3, 4, 5 -> {
                int from = site();
                int k = odd(random.nextInt(6));
                is("deliver", x.deliver(to, from, k), model.deliver(to, from, k));
            }
            case 6, 7 -> {
                long code = model.code(site(), random.nextInt(6)) + (random.nextInt(8) == 0 ? 1L << random.nextInt(64) : 0);
                is("arrive", x.arrive(to, code), model.arrive(to, code));
            }
            default -> {
                int from = site();
                if (random.nextInt(nearness) == 0) {
                    is("sync", x.sync(to, from), model.sync(to, from));
                }
            }
        }
    }

    private void make(int site) {
        int length = Math.max(0, model.length(site));
        if (random.nextInt(6) < erases) {
            int i = odd(random.nextInt(length + 1));
            is("erase", x.erase(site, i), model.erase(site, i));
        } else {
            int i = odd(random.nextInt(Math.min(length, nearness) + 1));
            int c = odd(1 + random.nextInt(255));
            is("insert", x.insert(site, i, c), model.insert(site, i, c));
        }
    }

    private void ask(int site, int of, int k) {
        int i = odd(random.nextInt(19));
        switch (random.nextInt(10)) {
            case 0 -> is("code", x.code(site, k), model.code(site, k));
            case 1 -> is("executed", x.executed(site, of), model.executed(site, of));
            case 2 -> is("waiting", x.waiting(site), model.waiting(site));
            case 3 -> is("place", x.place(site, of, k), model.place(site, of, k));
            case 4 -> is("length", x.length(site), model.length(site));
            case 5 -> is("at", x.at(site, i), model.at(site, i));
            case 6 -> is("cells", x.cells(site), model.cells(site));
            case 7 -> is("cell", x.cell(site, i), model.cell(site, i));
            case 8 -> is("stable", x.stable(site, of), model.stable(site, of));
            default -> is("sites", x.sites(), model.sites());
        }
    }

    private int site() {
        return odd(random.nextInt(model.count));
    }

    private int odd(int usual) {
        return random.nextInt(25) == 0 ? ODD[random.nextInt(ODD.length)] : usual;
    }

    private void compareAll() {
        for (int s = 0; s < model.count; s++) {
            is("waiting", x.waiting(s), model.waiting(s));
            is("length", x.length(s), model.length(s));
            is("cells", x.cells(s), model.cells(s));
            for (int i = 0; i < model.cells(s); i++) {
                is("at", x.at(s, i), model.at(s, i));
                is("cell", x.cell(s, i), model.cell(s, i));
            }
            for (int k = 0; k < 6; k++) {
                is("code", x.code(s, k), model.code(s, k));
                for (int of = 0; of < model.count; of++) {
                    is("place", x.place(s, of, k), model.place(s, of, k));
                }
            }
            for (int of = 0; of < model.count; of++) {
                is("executed", x.executed(s, of), model.executed(s, of));
                is("stable", x.stable(s, of), model.stable(s, of));
            }
        }
    }

    private void bringTogether() {
        for (int to = 0; to < model.count; to++) {
            for (int from = 0; from < model.count; from++) {
                for (int k = 5; k >= 0 && from != to; k--) {
                    is("deliver", x.deliver(to, from, k), model.deliver(to, from, k));
                }
            }
        }
        compareAll();
        for (int s = 0; s < model.count; s++) {
            is("nothing waits at the end", model.waiting(s), 0);
            due.same("run " + run + ": copy " + s, cells(s), cells(0));
        }
    }

    /** The model's cells, which are known to be the object's. */
    private String cells(int site) {
        StringBuilder text = new StringBuilder();
        for (int i = 0; i < model.cells(site); i++) {
            text.append(model.cell(site, i)).append(' ');
        }
        return text.toString();
    }

    private void is(String call, long got, long want) {
        due.is("run " + run + ": " + call, got, want);
    }
}
