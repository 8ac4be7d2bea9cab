import java.util.function.IntSupplier;

/** What the boundary tests ask of a play; every wrong answer is told with the name of its test. */
final class Edge {
    static final int TOP = Integer.MAX_VALUE, LOW = Integer.MIN_VALUE;
    static final int BAD = 0, NO = 1, FULL = 2;

    private final Due due;
    private final String test;

    Edge(Due due, String test) {
        this.due = due;
        this.test = test;
    }

    void is(String what, long got, long want) {
        due.is(test + ": " + what, got, want);
    }

    void is(long got, long want) {
        due.is(test, got, want);
    }

    /** A new play with a book that has been read. */
    SchoolPlay of(String text) {
        SchoolPlay play = new SchoolPlay();
        is("length of the book", Math.min(240, text.length()), text.length());
        int items = Texts.read(play, text);
        due.holds(test + ": the book is read: " + text, items >= 0);
        return play;
    }

    /** The answer is as told, the reason's STATUS is one more, and nothing else has changed. */
    void refused(SchoolPlay play, int reason, int answer, IntSupplier call) {
        int[] before = statusOf(play);
        long digest = play.digest();
        is("the answer", call.getAsInt(), answer);
        is("digest of a refused call", play.digest(), digest);
        int[] after = statusOf(play);
        for (int i = 0; i < 3; i++) {
            is("STATUS " + i, after[i], before[i] + (i == reason ? 1 : 0));
        }
    }

    /** The answer is as told, and neither STATUS nor anything else has changed. */
    void onlyAnswers(SchoolPlay play, int answer, IntSupplier call) {
        refused(play, -1, answer, call);
    }

    void bad(SchoolPlay play, IntSupplier call) {
        refused(play, BAD, -2, call);
    }

    void badTen(SchoolPlay play, IntSupplier call) {
        refused(play, BAD, -10, call);
    }

    void no(SchoolPlay play, IntSupplier call) {
        refused(play, NO, -3, call);
    }

    void noTwenty(SchoolPlay play, IntSupplier call) {
        refused(play, NO, -20, call);
    }

    void full(SchoolPlay play, IntSupplier call) {
        refused(play, FULL, -4, call);
    }

    void reads(String text, int items) {
        is("read of '" + text + "'", Texts.read(new SchoolPlay(), text), items);
    }

    /** A text in which ^ stands ahead of the FAULT; a play that stands stays as it is. */
    void fault(String marked) {
        int place = marked.indexOf('^');
        String text = marked.substring(0, place) + marked.substring(place + 1);
        SchoolPlay play = of("part 1 2 3;child 4 5 6 7 8;scene 9 0;wish 0 0;");
        play.cast(0, 0);
        play.rehearse(0, 1);
        play.clear();
        Texts.type(play, text);
        is("bytes of '" + text + "'", play.count(4), text.length());
        onlyAnswers(play, -10 - place, play::read);
    }

    void fraction(String what, SchoolPlay play, long above, long below) {
        is(what + ": sign", play.sign(0), above > 0 ? 1 : 0);
        is(what + ": above", sideOf(play, 0), above);
        is(what + ": below", sideOf(play, 1), below);
    }

    void status(SchoolPlay play, int bad, int no, int full) {
        int[] got = statusOf(play);
        is("BAD", got[0], bad);
        is("NO", got[1], no);
        is("FULL", got[2], full);
    }

    /** The digest that is due, by its numbers in their order. */
    static long mixed(long... row) {
        long h = 607;
        for (long v : row) {
            h = 31 * h + v;
        }
        return h;
    }

    private static int[] statusOf(SchoolPlay play) {
        return new int[] {play.status(0), play.status(1), play.status(2)};
    }

    /** What stands above (0) or below (1) in THE FRACTION, from its limbs. */
    static long sideOf(SchoolPlay play, int which) {
        long sum = 0;
        for (int i = play.sign(1 + which) - 1; i >= 0; i--) {
            sum = sum * 1073741824L + play.limb(which, i);
        }
        return sum;
    }
}
