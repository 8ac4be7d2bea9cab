/** Which part for whom: a school play's book, castings, rehearsals, understudies, lots and chances. */
public final class SchoolPlay {
    public static final int NONE = -1, BAD = -2, NO = -3, FULL = -4;

    private static final int MOST_PARTS = 6;
    private static final int MOST_CHILDREN = 6;
    private static final int MOST_SCENES = 7;
    private static final int MOST_WISHES = 3;
    private static final int MOST_BYTES = 240;
    private static final int MOST_YEARS = 10;
    private static final int MOST_DAYS = 4;
    private static final int MOST_MINUTES = 40;
    private static final int MOST_CHANGE = 3;
    private static final int MOST_TRIES = 9;
    private static final int IMAGES = 2;
    private static final int OF_ALL = 20;
    private static final int OF_TEN = 10;

    /** Some calls answer BAD and NO by these, since -2 and -3 are hard to tell from their other answers. */
    private static final int OTHER_BAD = -10, OTHER_NO = -20;

    private final State now = new State();
    private final State[] images = new State[IMAGES];
    private final boolean[] kept = new boolean[IMAGES];
    private final Fraction fraction = new Fraction();
    private final int[] refusals = new int[3];
    private final Reader reader = new Reader();
    private final CastSearch castings = new CastSearch();
    private final PlanSearch plans = new PlanSearch();
    private final Chances chances = new Chances();
    private final LotDraw draw = new LotDraw();

    public SchoolPlay() {
        for (int i = 0; i < IMAGES; i++) {
            images[i] = new State();
        }
    }

    // ---- books, castings

    public int type(long v, int n) {
        if (n < 1 || n > 8) {
            return refuse(BAD, BAD);
        }
        if (now.length + n > MOST_BYTES) {
            return refuse(FULL, FULL);
        }
        for (int i = n - 1; i >= 0; i--) {
            now.addByte((int) (v >>> (8 * i)) & 255);
        }
        return now.length;
    }

    public int clear() {
        int had = now.length;
        now.length = 0;
        return had;
    }

    public int read() {
        int answer = reader.readText(now.book, now.length);
        if (answer >= 0) {
            now.begin(reader.draft);
        }
        return answer;
    }

    public int put(int what, int v) {
        if (what == 0 && v >= 0 && v <= MOST_CHANGE) {
            int was = now.change;
            now.change = v;
            return was;
        }
        if (what == 1 && (v == 0 || v == 1)) {
            int was = now.each;
            now.each = v;
            return was;
        }
        return refuse(BAD, BAD);
    }

    public int fit(int child, int part) {
        if (!now.script.hasChild(child) || !now.script.hasPart(part)) {
            return refuse(BAD, BAD);
        }
        return now.script.fitOf(child, part);
    }

    public int clash(int a, int b) {
        if (!now.script.hasPart(a) || !now.script.hasPart(b) || a == b) {
            return refuse(BAD, BAD);
        }
        return now.script.clashing(a, b, now.change) ? 1 : 0;
    }

    public int best(int part) {
        if (part != NONE && !now.script.hasPart(part)) {
            return refuse(BAD, OTHER_BAD);
        }
        if (!castings.findBest(now)) {
            return refuse(NO, OTHER_NO);
        }
        return part == NONE ? castings.bestScore : castings.bestRow[part];
    }

    public int fewest() {
        return castings.fewestPlayers(now);
    }

    public int cast(int part, int child) {
        if (!now.script.hasPart(part) || !isChildOrNone(child)) {
            return refuse(BAD, OTHER_BAD);
        }
        int was = now.cast[part];
        now.cast[part] = child;
        return was;
    }

    public int takeBest() {
        if (!castings.findBest(now)) {
            return refuse(NO, NO);
        }
        for (int p = 0; p < now.script.parts; p++) {
            now.cast[p] = castings.bestRow[p];
        }
        return castings.bestScore;
    }

    // ---- rehearsals

    public int rehearse(int scene, int m) {
        if (!now.script.hasScene(scene) || !isMinutes(m)) {
            return refuse(BAD, BAD);
        }
        for (int p = 0; p < now.script.parts; p++) {
            now.known[p] = knownWith(now.known[p], now.learned(p, scene, m));
        }
        int sitting = now.sitting(scene);
        for (int c = 0; c < now.script.children; c++) {
            if ((sitting >> c & 1) != 0) {
                now.sat[c] += m;
            }
        }
        return Integer.bitCount(sitting);
    }

    public int night() {
        for (int p = 0; p < now.script.parts; p++) {
            now.known[p] = knownAfterNight(now.known[p], now.fading(p));
        }
        return 1;
    }

    public int known(int part) {
        return now.script.hasPart(part) ? now.known[part] : refuse(BAD, BAD);
    }

    public int sat(int child) {
        return now.script.hasChild(child) ? now.sat[child] : refuse(BAD, BAD);
    }

    public int slips(int scene) {
        if (scene == NONE) {
            return now.allSlips(NONE);
        }
        return now.script.hasScene(scene) ? now.sceneSlips(scene, NONE) : refuse(BAD, BAD);
    }

    public int cut() {
        int found = NONE;
        int least = 0;
        for (int p = 0; p < now.script.parts; p++) {
            int slips = now.allSlips(p);
            if (found == NONE || slips < least) {
                found = p;
                least = slips;
            }
        }
        return found;
    }

    public int plan(int d, int m, int i) {
        if (d < 1 || d > MOST_DAYS || !isMinutes(m) || i < NONE || i >= d) {
            return refuse(BAD, BAD);
        }
        if (now.script.scenes == 0) {
            return refuse(NO, NO);
        }
        plans.find(now, d, m);
        return i == NONE ? plans.bestKnown : plans.bestRow[i];
    }

    // ---- ill, lots

    public int behind(int part, int child) {
        if (!now.script.hasPart(part) || !isChildOrNone(child)) {
            return refuse(BAD, OTHER_BAD);
        }
        int was = now.behind[part];
        now.behind[part] = child;
        return was;
    }

    public int odds() {
        chances.prepare(now);
        fraction.become(chances.waysItGoes(), chances.waysInAll());
        return 1;
    }

    public int next() {
        chances.prepare(now);
        return chances.nextBehind();
    }

    public int hot(int child, int part) {
        if (!now.script.hasChild(child) || part != NONE && !now.script.hasPart(part)) {
            return refuse(BAD, OTHER_BAD);
        }
        if (!castings.findWithout(now, child)) {
            return refuse(NO, OTHER_NO);
        }
        return part == NONE ? castings.changes(now) : castings.bestRow[part];
    }

    public int lots(int rule, int child) {
        if (!isRule(rule) || !now.script.hasChild(child)) {
            return refuse(BAD, OTHER_BAD);
        }
        draw.prepare(now.script, rule);
        draw.run();
        return draw.got[child];
    }

    public int gains(int rule) {
        if (!isRule(rule)) {
            return refuse(BAD, OTHER_BAD);
        }
        draw.prepare(now.script, rule);
        return draw.leastGainer();
    }

    // ---- tries, teachers

    public int tried(int a, int g, int h, int n, int k) {
        boolean told = isUpTo(a, OF_ALL) && isUpTo(g, OF_TEN) && isUpTo(h, OF_TEN);
        if (!told || n < 1 || n > MOST_TRIES || !isUpTo(k, n)) {
            return refuse(BAD, BAD);
        }
        long good = a * power(g, k) * power(OF_TEN - g, n - k);
        long other = (OF_ALL - a) * power(h, k) * power(OF_TEN - h, n - k);
        if (good + other == 0) {
            return refuse(NO, NO);
        }
        fraction.become(good, good + other);
        return 1;
    }

    public int year(int chose) {
        if (chose != 0 && chose != 1) {
            return refuse(BAD, BAD);
        }
        if (now.yearCount >= MOST_YEARS) {
            return refuse(FULL, FULL);
        }
        now.years[now.yearCount] = chose;
        now.yearCount++;
        return now.yearCount;
    }

    public int forget() {
        int had = now.yearCount;
        now.yearCount = 0;
        return had;
    }

    public int leans(int which) {
        if (which < 0 || which > 2) {
            return refuse(BAD, BAD);
        }
        long all = now.leaning(0) + now.leaning(1) + now.leaning(2);
        fraction.become(now.leaning(which), all);
        return 1;
    }

    // ---- what there is

    public int sign(int what) {
        switch (what) {
            case 0:
                return fraction.above > 0 ? 1 : 0;
            case 1:
                return fraction.limbs(0);
            case 2:
                return fraction.limbs(1);
            default:
                return refuse(BAD, BAD);
        }
    }

    public int limb(int which, int i) {
        if (which < 0 || which > 1 || i < 0) {
            return refuse(BAD, BAD);
        }
        return i < fraction.limbs(which) ? fraction.limbAt(which, i) : NONE;
    }

    public int image(int i) {
        if (i < 0 || i >= IMAGES) {
            return refuse(BAD, BAD);
        }
        images[i].copyOf(now);
        kept[i] = true;
        return 1;
    }

    public int from(int i) {
        if (i < 0 || i >= IMAGES) {
            return refuse(BAD, BAD);
        }
        if (!kept[i]) {
            return refuse(NO, NO);
        }
        now.copyOf(images[i]);
        return 1;
    }

    public int status(int what) {
        if (what < 0 || what >= refusals.length) {
            return refuse(BAD, -1);
        }
        return refusals[what];
    }

    public int count(int what) {
        switch (what) {
            case 0:
                return now.script.parts;
            case 1:
                return now.script.children;
            case 2:
                return now.script.scenes;
            case 3:
                return now.yearCount;
            case 4:
                return now.length;
            default:
                return refuse(BAD, BAD);
        }
    }

    public long digest() {
        return fraction.mix(now.mix(607));
    }

    /** Counts a refusal by its reason, and gives the answer that the call has for it. */
    private int refuse(int reason, int answer) {
        int at = BAD - reason;
        if (at >= 0 && at < refusals.length) {
            refusals[at]++;
        }
        return answer;
    }

    private boolean isChildOrNone(int child) {
        return child == NONE || now.script.hasChild(child);
    }

    private static boolean isMinutes(int m) {
        return m >= 1 && m <= MOST_MINUTES;
    }

    private static boolean isRule(int rule) {
        return rule == 0 || rule == 1;
    }

    private static boolean isUpTo(int v, int most) {
        return v >= 0 && v <= most;
    }

    private static int knownWith(int was, int more) {
        return Math.min(100, was + more);
    }

    private static int knownAfterNight(int was, int forget) {
        return was - was * forget / 20;
    }

    /** By a row of products, so that nothing to the power 0 is 1. */
    private static long power(int base, int times) {
        long product = 1;
        for (int i = 0; i < times; i++) {
            product *= base;
        }
        return product;
    }

    /** What a BOOK tells: PARTS, CHILDREN with their wishes, SCENES. */
    private static final class Script {
        private static final int PLAIN = 0, WANTED = 1, LARGE = 2, SMALL = 3, GROWN = 4, SILENT = 5, SHADOW = 6;

        int parts;
        final int[] kind = new int[MOST_PARTS];
        final int[] lines = new int[MOST_PARTS];
        final int[] need = new int[MOST_PARTS];

        int children;
        final int[] learn = new int[MOST_CHILDREN];
        final int[] forget = new int[MOST_CHILDREN];
        final int[] voice = new int[MOST_CHILDREN];
        final int[] dread = new int[MOST_CHILDREN];
        final int[] ill = new int[MOST_CHILDREN];
        final int[] wishes = new int[MOST_CHILDREN * MOST_WISHES];

        int scenes;
        final int[] minutes = new int[MOST_SCENES];
        final int[] players = new int[MOST_SCENES];

        void empty() {
            parts = 0;
            children = 0;
            scenes = 0;
            for (int i = 0; i < wishes.length; i++) {
                wishes[i] = NONE;
            }
        }

        void copyOf(Script other) {
            parts = other.parts;
            children = other.children;
            scenes = other.scenes;
            for (int p = 0; p < MOST_PARTS; p++) {
                kind[p] = other.kind[p];
                lines[p] = other.lines[p];
                need[p] = other.need[p];
            }
            for (int c = 0; c < MOST_CHILDREN; c++) {
                learn[c] = other.learn[c];
                forget[c] = other.forget[c];
                voice[c] = other.voice[c];
                dread[c] = other.dread[c];
                ill[c] = other.ill[c];
            }
            for (int i = 0; i < wishes.length; i++) {
                wishes[i] = other.wishes[i];
            }
            for (int s = 0; s < MOST_SCENES; s++) {
                minutes[s] = other.minutes[s];
                players[s] = other.players[s];
            }
        }

        boolean hasPart(int part) {
            return part >= 0 && part < parts;
        }

        boolean hasChild(int child) {
            return child >= 0 && child < children;
        }

        boolean hasScene(int scene) {
            return scene >= 0 && scene < scenes;
        }

        boolean plays(int scene, int part) {
            return hasScene(scene) && hasPart(part) && (players[scene] >> part & 1) != 0;
        }

        /** The place of a PART among a CHILD's wishes; behind all of them, if it is none. */
        int rankOf(int child, int part) {
            if (!hasChild(child) || !hasPart(part)) {
                return MOST_WISHES;
            }
            for (int i = 0; i < MOST_WISHES; i++) {
                if (wishes[child * MOST_WISHES + i] == part) {
                    return i;
                }
            }
            return MOST_WISHES;
        }

        int fitOf(int child, int part) {
            if (!hasChild(child) || !hasPart(part)) {
                return 0;
            }
            int wished = 2 * (MOST_WISHES - rankOf(child, part));
            int plain = 10 - Math.abs(voice[child] - need[part]) + wished;
            int large = Math.max(0, plain + learn[child] - dread[child]);
            int small = Math.max(5, plain);
            switch (kind[part]) {
                case PLAIN:
                    return plain;
                case WANTED:
                    return plain + wished;
                case LARGE:
                    return large;
                case SMALL:
                    return small;
                case GROWN:
                    return small / 2;
                case SILENT:
                    return small + dread[child];
                case SHADOW:
                    return large / 2;
                default:
                    return 0;
            }
        }

        /** The SCENES of a PART, as bits. */
        int scenesOf(int part) {
            int bits = 0;
            for (int s = 0; s < scenes; s++) {
                if (plays(s, part)) {
                    bits |= 1 << s;
                }
            }
            return bits;
        }

        boolean clashing(int a, int b, int change) {
            int near = scenesOf(a);
            for (int i = 1; i <= change; i++) {
                near |= scenesOf(a) << i | scenesOf(a) >> i;
            }
            return (near & scenesOf(b)) != 0;
        }

        /** For each PART those it CLASHES with, as bits, so that searches need not look at SCENES again. */
        void fillClashes(int[] rows, int change) {
            for (int a = 0; a < parts && a < rows.length; a++) {
                rows[a] = 0;
                for (int b = 0; b < parts; b++) {
                    if (a != b && clashing(a, b, change)) {
                        rows[a] |= 1 << b;
                    }
                }
            }
        }

        int minutesOf(int part) {
            int sum = 0;
            for (int s = 0; s < scenes; s++) {
                if (plays(s, part)) {
                    sum += minutes[s];
                }
            }
            return sum;
        }

        long mixChildren(long start, int[] sat) {
            long h = start;
            for (int c = 0; c < children && c < sat.length; c++) {
                h = 31 * h + learn[c];
                h = 31 * h + forget[c];
                h = 31 * h + voice[c];
                h = 31 * h + dread[c];
                h = 31 * h + ill[c];
                for (int i = 0; i < MOST_WISHES; i++) {
                    h = 31 * h + wishes[c * MOST_WISHES + i];
                }
                h = 31 * h + sat[c];
            }
            return h;
        }

        long mixScenes(long start) {
            long h = start;
            for (int s = 0; s < scenes; s++) {
                h = 31 * h + minutes[s];
                h = 31 * h + players[s];
            }
            return h;
        }
    }

    /** All that an IMAGE keeps. */
    private static final class State {
        final Script script = new Script();
        final int[] cast = new int[MOST_PARTS];
        final int[] behind = new int[MOST_PARTS];
        final int[] known = new int[MOST_PARTS];
        final int[] sat = new int[MOST_CHILDREN];
        int change;
        int each;
        final int[] book = new int[MOST_BYTES];
        int length;
        final int[] years = new int[MOST_YEARS];
        int yearCount;

        void copyOf(State other) {
            script.copyOf(other.script);
            for (int p = 0; p < MOST_PARTS; p++) {
                cast[p] = other.cast[p];
                behind[p] = other.behind[p];
                known[p] = other.known[p];
            }
            for (int c = 0; c < MOST_CHILDREN; c++) {
                sat[c] = other.sat[c];
            }
            change = other.change;
            each = other.each;
            for (int i = 0; i < MOST_BYTES; i++) {
                book[i] = other.book[i];
            }
            length = other.length;
            for (int i = 0; i < MOST_YEARS; i++) {
                years[i] = other.years[i];
            }
            yearCount = other.yearCount;
        }

        void addByte(int b) {
            if (length >= 0 && length < MOST_BYTES) {
                book[length] = b;
                length++;
            }
        }

        /** A new BOOK has been read: nothing of the play ahead of it counts any more. */
        void begin(Script told) {
            script.copyOf(told);
            for (int p = 0; p < MOST_PARTS; p++) {
                cast[p] = NONE;
                behind[p] = NONE;
                known[p] = 0;
            }
            for (int c = 0; c < MOST_CHILDREN; c++) {
                sat[c] = 0;
            }
        }

        /** How much more is KNOWN of a PART by a SCENE, if that ends at no bound. */
        int learned(int part, int scene, int m) {
            if (!script.plays(scene, part) || !script.hasChild(cast[part])) {
                return 0;
            }
            return 10 * script.learn[cast[part]] * m / (Math.max(0, script.lines[part]) + 1);
        }

        /** FORGET of who has a PART; what nobody has is not forgotten. */
        int fading(int part) {
            return script.hasPart(part) && script.hasChild(cast[part]) ? script.forget[cast[part]] : 0;
        }

        /** The CHILDREN that SIT while a SCENE is gone through, as bits. */
        int sitting(int scene) {
            int holders = 0;
            int busy = 0;
            for (int p = 0; p < script.parts; p++) {
                if (script.hasChild(cast[p])) {
                    holders |= 1 << cast[p];
                    if (script.plays(scene, p)) {
                        busy |= 1 << cast[p];
                    }
                }
            }
            return holders & ~busy;
        }

        /** SLIPS of a SCENE, the LINES of one PART halved (NONE: of none). */
        int sceneSlips(int scene, int halved) {
            int sum = 0;
            for (int p = 0; p < script.parts; p++) {
                int all = script.plays(scene, p) ? script.minutesOf(p) : 0;
                if (all > 0) {
                    int lines = p == halved ? script.lines[p] / 2 : script.lines[p];
                    sum += lines * script.minutes[scene] / all * (100 - known[p]);
                }
            }
            return sum;
        }

        int allSlips(int halved) {
            int sum = 0;
            for (int s = 0; s < script.scenes; s++) {
                sum += sceneSlips(s, halved);
            }
            return sum;
        }

        /** How the YEARS weigh for one way of leaning: what is alike for all three is left out. */
        long leaning(int which) {
            int reader = which == 0 ? 8 : which == 1 ? 2 : 5;
            long product = 1;
            for (int i = 0; i < yearCount && i < MOST_YEARS; i++) {
                product *= years[i] == 0 ? reader : OF_TEN - reader;
            }
            return product;
        }

        long mix(long start) {
            long h = 31 * start + script.parts;
            h = 31 * h + script.children;
            h = 31 * h + script.scenes;
            h = 31 * h + yearCount;
            h = 31 * h + length;
            for (int p = 0; p < script.parts; p++) {
                h = 31 * h + script.kind[p];
                h = 31 * h + script.lines[p];
                h = 31 * h + script.need[p];
                h = 31 * h + cast[p];
                h = 31 * h + behind[p];
                h = 31 * h + known[p];
            }
            h = script.mixScenes(script.mixChildren(h, sat));
            h = 31 * h + change;
            h = 31 * h + each;
            for (int i = 0; i < length && i < MOST_BYTES; i++) {
                h = 31 * h + book[i];
            }
            for (int i = 0; i < yearCount && i < MOST_YEARS; i++) {
                h = 31 * h + years[i];
            }
            return h;
        }
    }

    /** Reads a TEXT into a draft of its own, so that a FAULT leaves the play as it is. */
    private static final class Reader {
        private static final int END = 0, WORD = 1, NUMBER = 2, STOP = 3, ODD = 4;

        final Script draft = new Script();
        private int[] text = new int[0];
        private int length;
        private int place;
        /** The first byte of the TOKEN at hand: where the FAULT is, if that can not stand there. */
        private int start;
        private int kind;
        private int value;

        /** How many ITEMS; -10 less the FAULT. */
        int readText(int[] bytes, int count) {
            text = bytes;
            length = Math.min(count, bytes.length);
            place = 0;
            draft.empty();
            int items = 0;
            for (int i = 0; i <= MOST_BYTES; i++) {
                step();
                if (kind == END) {
                    break;
                }
                if (!item()) {
                    return -10 - start;
                }
                items++;
            }
            return items;
        }

        private boolean item() {
            if (kind != WORD) {
                return false;
            }
            if (isWord("part")) {
                return partItem();
            }
            if (isWord("child")) {
                return childItem();
            }
            if (isWord("scene")) {
                return sceneItem();
            }
            return isWord("wish") && wishItem();
        }

        private boolean partItem() {
            int p = draft.parts;
            if (p < 0 || p >= MOST_PARTS) {
                return false;
            }
            draft.parts = p + 1;
            return number(draft.kind, p, 0, 6) && number(draft.lines, p, 0, 60)
                    && number(draft.need, p, 0, 9) && stop();
        }

        private boolean childItem() {
            int c = draft.children;
            if (c < 0 || c >= MOST_CHILDREN) {
                return false;
            }
            draft.children = c + 1;
            return number(draft.learn, c, 1, 9) && number(draft.forget, c, 0, 9)
                    && number(draft.voice, c, 0, 9) && number(draft.dread, c, 0, 9)
                    && number(draft.ill, c, 0, 19) && stop();
        }

        private boolean sceneItem() {
            int s = draft.scenes;
            if (s < 0 || s >= MOST_SCENES) {
                return false;
            }
            draft.scenes = s + 1;
            if (!number(draft.minutes, s, 1, 20)) {
                return false;
            }
            draft.players[s] = 0;
            int least = 0;
            for (int i = 0; i <= MOST_PARTS; i++) {
                step();
                if (kind == STOP) {
                    return i > 0;
                }
                if (!isNumber(least, draft.parts - 1)) {
                    return false;
                }
                draft.players[s] |= 1 << value;
                least = value + 1;
            }
            return false;
        }

        private boolean wishItem() {
            step();
            if (!isNumber(0, draft.children - 1)) {
                return false;
            }
            int child = value;
            for (int i = 0; i < MOST_WISHES; i++) {
                draft.wishes[child * MOST_WISHES + i] = NONE;
            }
            for (int i = 0; i <= MOST_WISHES; i++) {
                step();
                if (kind == STOP) {
                    return i > 0;
                }
                boolean fourth = i == MOST_WISHES;
                if (fourth || !isNumber(0, draft.parts - 1) || draft.rankOf(child, value) < MOST_WISHES) {
                    return false;
                }
                draft.wishes[child * MOST_WISHES + i] = value;
            }
            return false;
        }

        private boolean number(int[] row, int at, int low, int high) {
            step();
            if (!isNumber(low, high) || at < 0 || at >= row.length) {
                return false;
            }
            row[at] = value;
            return true;
        }

        private boolean isNumber(int low, int high) {
            return kind == NUMBER && value >= low && value <= high;
        }

        private boolean stop() {
            step();
            return kind == STOP;
        }

        private boolean isWord(String word) {
            if (place - start != word.length() || place > length) {
                return false;
            }
            for (int i = 0; i < word.length(); i++) {
                if (text[start + i] != word.charAt(i)) {
                    return false;
                }
            }
            return true;
        }

        /** Goes on to the next TOKEN. */
        private void step() {
            for (int i = place; i < length && text[i] == ' '; i++) {
                place = i + 1;
            }
            start = place;
            int first = start < length ? text[start] : NONE;
            if (first == NONE) {
                kind = END;
            } else if (isLetter(first)) {
                kind = WORD;
                passLetters();
            } else if (isFigure(first)) {
                passFigures();
            } else {
                kind = first == ';' ? STOP : ODD;
                place = start + 1;
            }
        }

        private void passLetters() {
            for (int i = start; i < length && isLetter(text[i]); i++) {
                place = i + 1;
            }
        }

        /** A third figure spoils the number as a whole: the FAULT is at its first byte. */
        private void passFigures() {
            value = 0;
            for (int i = start; i < length && isFigure(text[i]); i++) {
                value = value < 100 ? 10 * value + text[i] - '0' : value;
                place = i + 1;
            }
            kind = place - start <= 2 ? NUMBER : ODD;
        }

        private static boolean isLetter(int b) {
            return b >= 'a' && b <= 'z';
        }

        private static boolean isFigure(int b) {
            return b >= '0' && b <= '9';
        }
    }

    /** Looks for the CASTING with the most points; of like ones it keeps the first row. */
    private static final class CastSearch {
        /** More than FIT of all PARTS can be, so that one change less weighs more than any FIT. */
        private static final int CHANGE_COST = 1000;

        boolean found;
        int bestScore;
        final int[] bestRow = new int[MOST_PARTS];

        private int parts;
        private int children;
        private int away;
        private int each;
        private final int[] points = new int[MOST_PARTS * MOST_CHILDREN];
        /** The most points that this PART and all behind it can still bring. */
        private final int[] ceiling = new int[MOST_PARTS + 1];
        private final int[] clashes = new int[MOST_PARTS];
        private final int[] row = new int[MOST_PARTS];
        /** PARTS as bits, for each CHILD, or for each player of FEWEST. */
        private final int[] held = new int[Math.max(MOST_PARTS, MOST_CHILDREN)];

        boolean findBest(State state) {
            prepare(state, NONE, state.each);
            for (int p = 0; p < parts; p++) {
                for (int c = 0; c < children; c++) {
                    points[p * MOST_CHILDREN + c] = state.script.fitOf(c, p);
                }
            }
            return search();
        }

        boolean findWithout(State state, int ill) {
            prepare(state, ill, 0);
            for (int p = 0; p < parts; p++) {
                for (int c = 0; c < children; c++) {
                    int cost = state.cast[p] == c ? 0 : CHANGE_COST;
                    points[p * MOST_CHILDREN + c] = state.script.fitOf(c, p) - cost;
                }
            }
            return search();
        }

        /** How many PARTS another CHILD has in the row that was found than as CAST. */
        int changes(State state) {
            int sum = 0;
            for (int p = 0; p < state.script.parts && p < MOST_PARTS; p++) {
                if (bestRow[p] != state.cast[p]) {
                    sum++;
                }
            }
            return sum;
        }

        int fewestPlayers(State state) {
            prepare(state, NONE, 0);
            return playersFrom(0, 0);
        }

        private void prepare(State state, int ill, int everyone) {
            parts = state.script.parts;
            children = state.script.children;
            away = ill;
            each = everyone;
            state.script.fillClashes(clashes, state.change);
            for (int i = 0; i < held.length; i++) {
                held[i] = 0;
            }
        }

        private boolean search() {
            found = false;
            bestScore = 0;
            ceiling[MOST_PARTS] = 0;
            for (int p = MOST_PARTS - 1; p >= 0; p--) {
                ceiling[p] = ceiling[p + 1] + (p < parts ? mostPoints(p) : 0);
            }
            castFrom(0, 0, each == 1 ? children : 0);
            return found;
        }

        private int mostPoints(int part) {
            int most = -CHANGE_COST;
            for (int c = 0; c < children; c++) {
                if (c != away) {
                    most = Math.max(most, points[part * MOST_CHILDREN + c]);
                }
            }
            return most;
        }

        /** Rows come in their order, so one that is only as good as that found does not count. */
        private void castFrom(int part, int score, int waiting) {
            if (part < 0 || part > MOST_PARTS || waiting > parts - part) {
                return;
            }
            if (found && score + ceiling[part] <= bestScore) {
                return;
            }
            if (part >= parts) {
                keep(score);
                return;
            }
            for (int c = 0; c < children; c++) {
                if (c != away && (held[c] & clashes[part]) == 0) {
                    int before = held[c];
                    held[c] = before | 1 << part;
                    row[part] = c;
                    int left = before == 0 && each == 1 ? waiting - 1 : waiting;
                    castFrom(part + 1, score + points[part * MOST_CHILDREN + c], left);
                    held[c] = before;
                }
            }
        }

        private void keep(int score) {
            found = true;
            bestScore = score;
            for (int p = 0; p < MOST_PARTS; p++) {
                bestRow[p] = row[p];
            }
        }

        /** Only one new player is tried for each PART: new ones are all alike. */
        private int playersFrom(int part, int used) {
            if (part < 0 || part >= parts || part >= MOST_PARTS) {
                return used;
            }
            int least = parts;
            for (int i = 0; i <= used && i < held.length; i++) {
                if ((held[i] & clashes[part]) == 0) {
                    held[i] |= 1 << part;
                    least = Math.min(least, playersFrom(part + 1, i == used ? used + 1 : used));
                    held[i] &= ~(1 << part);
                }
            }
            return least;
        }
    }

    /** Tries all rows of SCENES for a PLAN; of like ones it keeps the first row. */
    private static final class PlanSearch {
        int bestKnown;
        final int[] bestRow = new int[MOST_DAYS];

        private int bestSitting;
        private boolean found;
        private int days;
        private int scenes;
        private int parts;
        private final int[] row = new int[MOST_DAYS];
        /** For each SCENE, then PART. */
        private final int[] learned = new int[MOST_SCENES * MOST_PARTS];
        private final int[] fading = new int[MOST_PARTS];
        private final boolean[] spoken = new boolean[MOST_PARTS];
        /** What is KNOWN ahead of each day, and behind the last. */
        private final int[][] known = new int[MOST_DAYS + 1][MOST_PARTS];
        private final int[] sitters = new int[MOST_SCENES];

        void find(State state, int d, int m) {
            prepare(state, m);
            days = Math.min(d, MOST_DAYS);
            found = false;
            bestKnown = 0;
            bestSitting = 0;
            planFrom(0, 0);
        }

        private void prepare(State state, int m) {
            parts = state.script.parts;
            scenes = state.script.scenes;
            for (int p = 0; p < parts; p++) {
                known[0][p] = state.known[p];
                fading[p] = state.fading(p);
                spoken[p] = state.script.lines[p] > 0;
            }
            for (int s = 0; s < scenes; s++) {
                sitters[s] = Integer.bitCount(state.sitting(s));
                for (int p = 0; p < parts; p++) {
                    learned[s * MOST_PARTS + p] = state.learned(p, s, m);
                }
            }
        }

        private void planFrom(int day, int sitting) {
            if (day < 0 || day > MOST_DAYS) {
                return;
            }
            if (day == days) {
                compare(leastKnown(day), sitting);
                return;
            }
            for (int s = 0; s < scenes && day < MOST_DAYS; s++) {
                for (int p = 0; p < parts; p++) {
                    int evening = knownWith(known[day][p], learned[s * MOST_PARTS + p]);
                    known[day + 1][p] = knownAfterNight(evening, fading[p]);
                }
                row[day] = s;
                planFrom(day + 1, sitting + sitters[s]);
            }
        }

        private int leastKnown(int day) {
            int least = 100;
            for (int p = 0; p < parts; p++) {
                if (spoken[p]) {
                    least = Math.min(least, known[day][p]);
                }
            }
            return least;
        }

        private void compare(int least, int sitting) {
            boolean better = least > bestKnown || least == bestKnown && sitting < bestSitting;
            if (found && !better) {
                return;
            }
            found = true;
            bestKnown = least;
            bestSitting = sitting;
            for (int i = 0; i < MOST_DAYS; i++) {
                bestRow[i] = row[i];
            }
        }
    }

    /** Counts, of all ways in which CHILDREN can be ill, those in which the play GOES. */
    private static final class Chances {
        private final Script script = new Script();
        private final int[] cast = new int[MOST_PARTS];
        private final int[] behind = new int[MOST_PARTS];
        private final int[] clashes = new int[MOST_PARTS];
        private final int[] played = new int[MOST_CHILDREN];
        /** Of 20 to the power of CHILDREN, by who is well (as bits). */
        private final long[] ways = new long[1 << MOST_CHILDREN];

        void prepare(State state) {
            script.copyOf(state.script);
            script.fillClashes(clashes, state.change);
            for (int p = 0; p < MOST_PARTS; p++) {
                cast[p] = state.cast[p];
                behind[p] = state.behind[p];
            }
            for (int well = 0; well < ways.length; well++) {
                ways[well] = waysOf(well);
            }
        }

        long waysInAll() {
            return power(OF_ALL, script.children);
        }

        long waysItGoes() {
            long sum = 0;
            for (int well = 0; well < ways.length; well++) {
                if (ways[well] > 0 && goes(well)) {
                    sum += ways[well];
                }
            }
            return sum;
        }

        /** 10 times the PART, and the CHILD that should stand BEHIND it next. */
        int nextBehind() {
            int answer = NONE;
            int fewestHours = 0;
            long most = waysItGoes();
            for (int p = 0; p < script.parts; p++) {
                for (int c = 0; c < script.children && behind[p] == NONE; c++) {
                    if (c == cast[p]) {
                        continue;
                    }
                    long better = waysWith(p, c);
                    int hours = hoursOf(p, c);
                    if (better > most || answer != NONE && better == most && hours < fewestHours) {
                        answer = 10 * p + c;
                        most = better;
                        fewestHours = hours;
                    }
                }
            }
            return answer;
        }

        private long waysWith(int part, int child) {
            if (!script.hasPart(part)) {
                return 0;
            }
            int was = behind[part];
            behind[part] = child;
            long better = waysItGoes();
            behind[part] = was;
            return better;
        }

        private int hoursOf(int part, int child) {
            if (!script.hasPart(part) || !script.hasChild(child)) {
                return 0;
            }
            int learn = Math.max(1, script.learn[child]);
            return (script.lines[part] + learn - 1) / learn;
        }

        /** 0 for those of whom some are no CHILDREN of this play. */
        private long waysOf(int well) {
            long product = well >> script.children == 0 ? 1 : 0;
            for (int c = 0; c < script.children; c++) {
                product *= isWell(c, well) ? OF_ALL - script.ill[c] : script.ill[c];
            }
            return product;
        }

        private boolean goes(int well) {
            for (int c = 0; c < script.children; c++) {
                played[c] = 0;
            }
            for (int p = 0; p < script.parts; p++) {
                int player = isWell(cast[p], well) ? cast[p] : behind[p];
                if (!isWell(player, well) || (played[player] & clashes[p]) != 0) {
                    return false;
                }
                played[player] |= 1 << p;
            }
            return true;
        }

        private boolean isWell(int child, int well) {
            return script.hasChild(child) && (well >> child & 1) != 0;
        }
    }

    /** LOTS by what CHILDREN tell, which may be other than what they wish. */
    private static final class LotDraw {
        final int[] got = new int[MOST_CHILDREN];

        private final Script script = new Script();
        private int rule;
        private int taken;
        private final int[] told = new int[MOST_CHILDREN * MOST_WISHES];

        void prepare(Script wished, int byRule) {
            script.copyOf(wished);
            rule = byRule;
            tellTruth();
        }

        void run() {
            taken = 0;
            for (int c = 0; c < MOST_CHILDREN; c++) {
                got[c] = NONE;
            }
            for (int i = 0; i < told.length; i++) {
                if (rule == 0) {
                    offer(i / MOST_WISHES, i % MOST_WISHES);
                } else {
                    offer(i % MOST_CHILDREN, i / MOST_CHILDREN);
                }
            }
        }

        int leastGainer() {
            for (int c = 0; c < script.children; c++) {
                tellTruth();
                run();
                int rank = script.rankOf(c, got[c]);
                if (rank > 0 && gainsByAnother(c, rank)) {
                    return c;
                }
            }
            return NONE;
        }

        private void tellTruth() {
            for (int i = 0; i < told.length; i++) {
                told[i] = script.wishes[i];
            }
        }

        private void offer(int child, int wish) {
            if (!script.hasChild(child) || wish < 0 || wish >= MOST_WISHES || got[child] != NONE) {
                return;
            }
            int part = told[child * MOST_WISHES + wish];
            if (script.hasPart(part) && (taken >> part & 1) == 0) {
                got[child] = part;
                taken |= 1 << part;
            }
        }

        /** Rows of one PART are enough: what a CHILD gets by a longer row, it gets by telling that alone, too. */
        private boolean gainsByAnother(int child, int rank) {
            for (int p = 0; p < script.parts; p++) {
                tellOnly(child, p);
                run();
                if (script.rankOf(child, got[child]) < rank) {
                    return true;
                }
            }
            return false;
        }

        private void tellOnly(int child, int part) {
            for (int i = 0; i < MOST_WISHES; i++) {
                told[child * MOST_WISHES + i] = i == 0 ? part : NONE;
            }
        }
    }

    /** THE FRACTION, in lowest terms, not below 0; each side of it has two limbs at most. */
    private static final class Fraction {
        private static final int LIMB_BITS = 30;
        /** Those of a long, far above what THE FRACTION needs. */
        private static final int MOST_LIMBS = 3;

        long above = 0;
        long below = 1;

        void become(long over, long under) {
            long divisor = common(over, under);
            if (divisor > 0) {
                above = over / divisor;
                below = under / divisor;
            }
        }

        int limbs(int which) {
            int number = 0;
            for (int i = 0; i < MOST_LIMBS && side(which) >>> (LIMB_BITS * i) != 0; i++) {
                number++;
            }
            return number;
        }

        int limbAt(int which, int i) {
            if (i < 0 || i >= MOST_LIMBS) {
                return 0;
            }
            return (int) (side(which) >>> (LIMB_BITS * i)) & (1 << LIMB_BITS) - 1;
        }

        long mix(long start) {
            long h = 31 * start + (above > 0 ? 1 : 0);
            h = 31 * h + limbs(0);
            h = 31 * h + limbs(1);
            for (int which = 0; which < 2; which++) {
                for (int i = 0; i < limbs(which); i++) {
                    h = 31 * h + limbAt(which, i);
                }
            }
            return h;
        }

        private long side(int which) {
            return which == 0 ? above : below;
        }

        /** Euclid's way needs below a hundred steps for numbers of a long. */
        private static long common(long a, long b) {
            long x = a;
            long y = b;
            for (int i = 0; i < 100 && y > 0; i++) {
                long rest = x % y;
                x = y;
                y = rest;
            }
            return x;
        }
    }
}
