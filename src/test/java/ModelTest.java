import java.util.Random;

/** Runs of up to 512 calls by fixed seeds, each answer compared with the plain model's. */
public final class ModelTest {
    private static final String[] ODD = {"part", "child", "wish", ";", " ", "7", "123", "x", "!", "9 ", "0", "scene", "\u00e9", "P"};

    private final Due due = new Due();
    private final Random random;
    private final SchoolPlay play = new SchoolPlay();
    private final PlainPlay model = new PlainPlay();
    private final int run;
    private int calls = 0;

    private ModelTest(int run) {
        this.run = run;
        this.random = new Random(run);
    }

    private static String number(Random r, int low, int high) {
        int v = low + r.nextInt(high - low + 1);
        return (v < 10 && r.nextInt(20) == 0 ? "0" : "") + v;
    }

    private static String row(Random r, int most, int below, boolean sorted) {
        boolean[] used = new boolean[below];
        StringBuilder text = new StringBuilder();
        int n = 1 + r.nextInt(Math.min(most, below));
        for (int i = 0; i < n; i++) used[r.nextInt(below)] = true;
        int[] rows = new int[below];
        int size = 0;
        for (int p = 0; p < below; p++) if (used[p]) rows[size++] = p;
        for (int i = size - 1; i > 0 && !sorted; i--) {
            int j = r.nextInt(i + 1);
            int t = rows[i];
            rows[i] = rows[j];
            rows[j] = t;
        }
        for (int i = 0; i < size; i++) text.append(" ").append(rows[i]);
        return text.toString();
    }

    /** A book of sizes up to the document's bounds; now and then with something odd in it. */
    static String book(Random r) {
        int parts = r.nextInt(7), children = r.nextInt(7), scenes = r.nextInt(8), wishes = r.nextInt(8);
        if (r.nextInt(4) == 0) {
            // few parts, wished by many: else hardly anybody gains
            parts = 2 + r.nextInt(3);
            children = 3 + r.nextInt(4);
            scenes = r.nextInt(3);
            wishes = 10;
        }
        boolean flat = r.nextInt(3) == 0;
        StringBuilder text = new StringBuilder();
        for (int i = 0; i < parts; i++)
            text.append("part ").append(number(r, 0, 6)).append(' ').append(number(r, 0, flat ? 3 : 60)).append(' ').append(number(r, 0, 9)).append(';');
        for (int i = 0; i < children; i++)
            text.append("child ").append(number(r, 1, 9)).append(' ').append(number(r, 0, 9)).append(' ').append(number(r, 0, 9)).append(' ')
                    .append(number(r, 0, 9)).append(' ').append(number(r, 0, flat ? 2 : 19)).append(';');
        for (int i = 0; i < scenes && parts > 0; i++)
            text.append("scene ").append(number(r, 1, 20)).append(row(r, flat ? 6 : 2, parts, true)).append(';');
        for (int i = 0; i < wishes && parts > 0 && children > 0; i++)
            text.append("wish ").append(r.nextInt(children)).append(row(r, 3, parts, false)).append(';');
        if (r.nextInt(4) == 0) {
            int at = r.nextInt(text.length() + 1);
            int end = Math.min(text.length(), at + r.nextInt(3));
            text.replace(at, end, ODD[r.nextInt(ODD.length)]);
        }
        String whole = text.toString();
        return r.nextBoolean() ? whole.replace("d ", "d").replace("t ", "t").replace("e ", "e").replace("h ", "h") : whole;
    }

    private int near(int most) {
        int pick = random.nextInt(40);
        if (pick == 0) return -2;
        if (pick == 1) return Integer.MAX_VALUE;
        if (pick == 2) return Integer.MIN_VALUE;
        if (pick == 3) return most + 1;
        return random.nextInt(most + 2) - 1;
    }

    private void is(String call, long got, long want) {
        calls++;
        due.is("run " + run + ", call " + calls + ": " + call, got, want);
    }

    private void writeBook() {
        String text = book(random);
        for (int tries = 0; tries < 50 && text.length() > 240; tries++) text = book(random);
        is("clear()", play.clear(), model.clear());
        for (int i = 0; i < text.length(); i += 8) {
            String piece = text.substring(i, Math.min(text.length(), i + 8));
            long v = Texts.packed(piece);
            is("type " + piece, play.type(v, piece.length()), model.type(v, piece.length()));
        }
        is("read() of " + text, play.read(), model.read());
    }

    private void bookCall() {
        int a = near(5), b = near(5);
        switch (random.nextInt(10)) {
            case 0: is("put " + a + " " + b, play.put(a, b), model.put(a, b)); break;
            case 1: case 2: is("put 0", play.put(0, Math.abs(a % 4)), model.put(0, Math.abs(a % 4))); break;
            case 3: is("fit " + a + " " + b, play.fit(a, b), model.fit(a, b)); break;
            case 4: is("clash " + a + " " + b, play.clash(a, b), model.clash(a, b)); break;
            case 5: is("best " + a, play.best(a), model.best(a)); break;
            case 6: is("fewest", play.fewest(), model.fewest()); break;
            case 7: is("cast " + a + " " + b, play.cast(a, b), model.cast(a, b)); break;
            case 8: is("takeBest", play.takeBest(), model.takeBest()); break;
            default: is("put 1", play.put(1, a & 1), model.put(1, a & 1));
        }
    }

    private void rehearsalCall() {
        int a = near(6), b = random.nextInt(45) - 2;
        switch (random.nextInt(9)) {
            case 0: case 1: case 2: is("rehearse " + a + " " + b, play.rehearse(a, b), model.rehearse(a, b)); break;
            case 3: is("night", play.night(), model.night()); break;
            case 4: is("known " + a, play.known(a), model.known(a)); break;
            case 5: is("sat " + a, play.sat(a), model.sat(a)); break;
            case 6: is("slips " + a, play.slips(a), model.slips(a)); break;
            case 7: is("cut", play.cut(), model.cut()); break;
            default:
                int d = random.nextInt(10) == 0 ? near(4) : 1 + random.nextInt(run % 8 == 0 ? 4 : 2);
                int i = random.nextInt(d < 1 || d > 4 ? 3 : d + 1) - 1;
                is("plan " + d + " " + b + " " + i, play.plan(d, b, i), model.plan(d, b, i));
        }
    }

    private void illCall() {
        int a = near(5), b = near(5);
        switch (random.nextInt(8)) {
            case 0: case 1: is("behind " + a + " " + b, play.behind(a, b), model.behind(a, b)); break;
            case 2: is("odds", play.odds(), model.odds()); break;
            case 3: is("next", play.next(), model.next()); break;
            case 4: is("hot " + a + " " + b, play.hot(a, b), model.hot(a, b)); break;
            case 5: is("lots " + a % 2 + " " + b, play.lots(a % 2, b), model.lots(a % 2, b)); break;
            case 6: is("lots " + a + " " + b, play.lots(a, b), model.lots(a, b)); break;
            default: is("gains " + a % 2, play.gains(a % 2), model.gains(a % 2));
        }
    }

    private void otherCall() {
        int a = near(3), b = near(3);
        switch (random.nextInt(14)) {
            case 0: case 1: case 2:
                int n = 1 + random.nextInt(9), k = random.nextInt(n + 1), g = random.nextInt(12), h = random.nextInt(11), of = random.nextInt(22);
                is("tried " + of + " " + g + " " + h + " " + n + " " + k, play.tried(of, g, h, n, k), model.tried(of, g, h, n, k));
                break;
            case 3: case 4: case 5: is("year " + a, play.year(a), model.year(a)); break;
            case 6: if (random.nextInt(6) == 0) is("forget", play.forget(), model.forget()); break;
            case 7: is("leans " + a, play.leans(a), model.leans(a)); break;
            case 8: is("sign " + a, play.sign(a), model.sign(a)); break;
            case 9: is("limb " + a + " " + b, play.limb(a, b), model.limb(a, b)); break;
            case 10: is("image " + a, play.image(a), model.image(a)); break;
            case 11: is("from " + a, play.from(a), model.from(a)); break;
            case 12: is("status " + a, play.status(a), model.status(a)); break;
            default: is("count " + a, play.count(a + 1), model.count(a + 1));
        }
    }

    private boolean goesOn() {
        if (random.nextInt(60) == 0) {
            writeBook();
        }
        switch (random.nextInt(8)) {
            case 0: case 1: bookCall(); break;
            case 2: case 3: case 4: rehearsalCall(); break;
            case 5: case 6: illCall(); break;
            default: otherCall();
        }
        if (random.nextInt(4) == 0) is("digest", play.digest(), model.digest());
        return due.allRight();
    }

    public static void main(String[] args) {
        int runs = args.length > 0 ? Integer.parseInt(args[0]) : 1500;
        Due all = new Due();
        for (int run = 0; run < runs; run++) {
            ModelTest test = new ModelTest(run);
            test.writeBook();
            for (int i = 0; i < 380 && test.calls < 440; i++) {
                if (!test.goesOn()) break;
            }
            all.holds("run " + run, test.due.allRight());
        }
        all.end();
    }
}
