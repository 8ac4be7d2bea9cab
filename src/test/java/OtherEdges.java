import java.math.BigInteger;

/** Boundary cases of promises 25 to 35: tries, teachers, and what there is. */
final class OtherEdges {
    private static final String PART = "part 0 0 0;", CHILD = "child 1 0 0 0 0;";

    private OtherEdges() {
    }

    private static void tried(Edge edge, SchoolPlay play, int[] v, long above, long below) {
        String what = "tried " + v[0] + ", " + v[1] + ", " + v[2] + ", " + v[3] + ", " + v[4];
        edge.is(what, play.tried(v[0], v[1], v[2], v[3], v[4]), 1);
        edge.fraction(what, play, above, below);
    }

    private static SchoolPlay withFraction() {
        SchoolPlay play = new SchoolPlay();
        play.tried(10, 8, 2, 2, 2);
        return play;
    }

    private static SchoolPlay withYears(int readers, int voices) {
        SchoolPlay play = new SchoolPlay();
        for (int i = 0; i < readers + voices; i++) {
            play.year(i < readers ? 0 : 1);
        }
        return play;
    }

    static void p25_noneAndAllAreGood(Edge edge) {
        SchoolPlay play = withFraction();
        tried(edge, play, new int[] {0, 5, 5, 1, 1}, 0, 1);
        tried(edge, play, new int[] {20, 5, 5, 1, 1}, 1, 1);
        tried(edge, play, new int[] {1, 5, 5, 1, 1}, 1, 20);
        tried(edge, play, new int[] {19, 5, 5, 1, 1}, 19, 20);
    }

    static void p25_neverAndAlwaysWell(Edge edge) {
        SchoolPlay play = new SchoolPlay();
        tried(edge, play, new int[] {10, 10, 0, 1, 1}, 1, 1);
        tried(edge, play, new int[] {10, 10, 0, 1, 0}, 0, 1);
        tried(edge, play, new int[] {10, 0, 10, 9, 0}, 1, 1);
        tried(edge, play, new int[] {10, 0, 10, 9, 9}, 0, 1);
        tried(edge, play, new int[] {5, 10, 10, 9, 9}, 1, 4);
        tried(edge, play, new int[] {5, 0, 0, 9, 0}, 1, 4);
    }

    static void p25_oneTryAndNine(Edge edge) {
        SchoolPlay play = new SchoolPlay();
        tried(edge, play, new int[] {10, 6, 3, 1, 1}, 2, 3);
        tried(edge, play, new int[] {10, 6, 3, 1, 0}, 4, 11);
        tried(edge, play, new int[] {10, 2, 1, 9, 9}, 512, 513);
        tried(edge, play, new int[] {10, 9, 8, 9, 0}, 1, 513);
    }

    static void p25_numbersOfTwoLimbs(Edge edge) {
        SchoolPlay play = new SchoolPlay();
        tried(edge, play, new int[] {13, 9, 10, 9, 9}, 5036466357L, 12036466357L);
        edge.is("limbs above", play.sign(1), 2);
        edge.is("limbs below", play.sign(2), 2);
    }

    static void p25_lowestTerms(Edge edge) {
        tried(edge, new SchoolPlay(), new int[] {10, 10, 10, 9, 9}, 1, 2);
    }

    static void p25_thatCanNotBe(Edge edge) {
        SchoolPlay play = withFraction();
        edge.no(play, () -> play.tried(0, 5, 0, 1, 1));
        edge.no(play, () -> play.tried(0, 5, 10, 1, 0));
        edge.no(play, () -> play.tried(20, 0, 5, 1, 1));
        edge.no(play, () -> play.tried(20, 10, 5, 9, 8));
        edge.no(play, () -> play.tried(10, 0, 0, 9, 1));
        edge.no(play, () -> play.tried(10, 10, 10, 9, 8));
        edge.no(play, () -> play.tried(10, 0, 10, 2, 1));
    }

    static void p25_goodOnesAreTooFewOrTooMany(Edge edge) {
        SchoolPlay play = withFraction();
        edge.bad(play, () -> play.tried(-1, 5, 5, 1, 1));
        edge.bad(play, () -> play.tried(21, 5, 5, 1, 1));
        edge.bad(play, () -> play.tried(Edge.TOP, 5, 5, 1, 1));
        edge.bad(play, () -> play.tried(Edge.LOW, 5, 5, 1, 1));
    }

    static void p25_gIsTooSmallOrTooLarge(Edge edge) {
        SchoolPlay play = withFraction();
        edge.bad(play, () -> play.tried(10, -1, 5, 1, 1));
        edge.bad(play, () -> play.tried(10, 11, 5, 1, 1));
        edge.bad(play, () -> play.tried(10, Edge.TOP, 5, 1, 1));
        edge.bad(play, () -> play.tried(10, Edge.LOW, 5, 1, 1));
    }

    static void p25_hIsTooSmallOrTooLarge(Edge edge) {
        SchoolPlay play = withFraction();
        edge.bad(play, () -> play.tried(10, 5, -1, 1, 1));
        edge.bad(play, () -> play.tried(10, 5, 11, 1, 1));
        edge.bad(play, () -> play.tried(10, 5, Edge.TOP, 1, 1));
        edge.bad(play, () -> play.tried(10, 5, Edge.LOW, 1, 1));
    }

    static void p25_tooFewOrTooManyTries(Edge edge) {
        SchoolPlay play = withFraction();
        edge.bad(play, () -> play.tried(10, 5, 5, 0, 0));
        edge.bad(play, () -> play.tried(10, 5, 5, -1, 0));
        edge.bad(play, () -> play.tried(10, 5, 5, 10, 5));
        edge.bad(play, () -> play.tried(10, 5, 5, Edge.TOP, 5));
        edge.bad(play, () -> play.tried(10, 5, 5, Edge.LOW, Edge.LOW));
    }

    static void p25_readWellTooSeldomOrTooOften(Edge edge) {
        SchoolPlay play = withFraction();
        edge.bad(play, () -> play.tried(10, 5, 5, 1, -1));
        edge.bad(play, () -> play.tried(10, 5, 5, 1, 2));
        edge.bad(play, () -> play.tried(10, 5, 5, 9, 10));
        edge.bad(play, () -> play.tried(10, 5, 5, 9, Edge.TOP));
        edge.bad(play, () -> play.tried(10, 5, 5, 9, Edge.LOW));
    }

    static void p25_badIsAheadOfNo(Edge edge) {
        SchoolPlay play = withFraction();
        edge.bad(play, () -> play.tried(0, 11, 0, 1, 1));
        edge.bad(play, () -> play.tried(0, 5, 0, 1, 2));
    }

    static void p26_theFirstAndTheTenth(Edge edge) {
        SchoolPlay play = new SchoolPlay();
        for (int i = 1; i <= 10; i++) {
            edge.is("YEAR " + i, play.year(1), i);
        }
        edge.is("how many there are", play.count(3), 10);
    }

    static void p26_anEleventhIsFull(Edge edge) {
        SchoolPlay play = withYears(5, 5);
        edge.full(play, () -> play.year(0));
        edge.full(play, () -> play.year(1));
    }

    static void p26_neitherReaderNorVoice(Edge edge) {
        SchoolPlay play = withYears(1, 0);
        edge.bad(play, () -> play.year(-1));
        edge.bad(play, () -> play.year(2));
        edge.bad(play, () -> play.year(Edge.TOP));
        edge.bad(play, () -> play.year(Edge.LOW));
    }

    static void p26_badIsAheadOfFull(Edge edge) {
        SchoolPlay play = withYears(10, 0);
        edge.bad(play, () -> play.year(2));
        edge.bad(play, () -> play.year(-1));
    }

    static void p27_noYears(Edge edge) {
        SchoolPlay play = new SchoolPlay();
        edge.onlyAnswers(play, 0, play::forget);
    }

    static void p27_tenYears(Edge edge) {
        SchoolPlay play = withYears(3, 7);
        edge.is("how many there were", play.forget(), 10);
        edge.is("none", play.count(3), 0);
        edge.is("digest", play.digest(), new SchoolPlay().digest());
        edge.is("it is full no more", play.year(1), 1);
    }

    static void p27_theyLeanAlikeAgain(Edge edge) {
        SchoolPlay play = withYears(10, 0);
        play.forget();
        play.leans(0);
        edge.fraction("alike", play, 1, 3);
    }

    private static void leans(Edge edge, SchoolPlay play, long readers, long voices, long none, long below) {
        long[] above = {readers, voices, none};
        for (int which = 0; which < 3; which++) {
            long common = BigInteger.valueOf(above[which]).gcd(BigInteger.valueOf(below)).longValue();
            edge.is("leans " + which, play.leans(which), 1);
            edge.fraction("leans " + which, play, above[which] / common, below / common);
        }
    }

    static void p28_noYears(Edge edge) {
        leans(edge, new SchoolPlay(), 1, 1, 1, 3);
    }

    static void p28_oneYear(Edge edge) {
        leans(edge, withYears(1, 0), 8, 2, 5, 15);
        leans(edge, withYears(0, 1), 2, 8, 5, 15);
    }

    static void p28_tenYears(Edge edge) {
        leans(edge, withYears(10, 0), 1073741824, 1024, 9765625, 1083508473);
        leans(edge, withYears(0, 10), 1024, 1073741824, 9765625, 1083508473);
        leans(edge, withYears(5, 5), 1048576, 1048576, 9765625, 11862777);
    }

    static void p28_noSuchWay(Edge edge) {
        SchoolPlay play = withFraction();
        edge.bad(play, () -> play.leans(-1));
        edge.bad(play, () -> play.leans(3));
        edge.bad(play, () -> play.leans(Edge.TOP));
        edge.bad(play, () -> play.leans(Edge.LOW));
    }

    static void p29_nothingHasNoLimbs(Edge edge) {
        SchoolPlay play = withFraction();
        play.tried(0, 5, 5, 1, 1);
        edge.onlyAnswers(play, 0, () -> play.sign(0));
        edge.onlyAnswers(play, 0, () -> play.sign(1));
        edge.onlyAnswers(play, 1, () -> play.sign(2));
    }

    static void p29_one(Edge edge) {
        SchoolPlay play = new SchoolPlay();
        play.odds();
        edge.onlyAnswers(play, 1, () -> play.sign(0));
        edge.onlyAnswers(play, 1, () -> play.sign(1));
        edge.onlyAnswers(play, 1, () -> play.sign(2));
    }

    static void p29_theBaseHasTwoLimbs(Edge edge) {
        SchoolPlay play = withYears(10, 0);
        play.leans(0);
        edge.is("1073741824", play.sign(1), 2);
        edge.is("1083508473", play.sign(2), 2);
        play.leans(1);
        edge.is("1024", play.sign(1), 1);
    }

    static void p29_noSuchWhat(Edge edge) {
        SchoolPlay play = withFraction();
        edge.bad(play, () -> play.sign(-1));
        edge.bad(play, () -> play.sign(3));
        edge.bad(play, () -> play.sign(Edge.TOP));
        edge.bad(play, () -> play.sign(Edge.LOW));
    }

    static void p30_theLowestFirst(Edge edge) {
        SchoolPlay play = new SchoolPlay();
        play.tried(13, 9, 10, 9, 9);
        edge.onlyAnswers(play, 741499061, () -> play.limb(0, 0));
        edge.onlyAnswers(play, 4, () -> play.limb(0, 1));
        edge.onlyAnswers(play, 225306293, () -> play.limb(1, 0));
        edge.onlyAnswers(play, 11, () -> play.limb(1, 1));
    }

    static void p30_aLimbOfNothing(Edge edge) {
        SchoolPlay play = withYears(10, 0);
        play.leans(0);
        edge.is("the lowest of 1073741824", play.limb(0, 0), 0);
        edge.is("the next", play.limb(0, 1), 1);
    }

    static void p30_notSoMany(Edge edge) {
        SchoolPlay play = new SchoolPlay();
        edge.onlyAnswers(play, -1, () -> play.limb(0, 0));
        edge.onlyAnswers(play, 1, () -> play.limb(1, 0));
        edge.onlyAnswers(play, -1, () -> play.limb(1, 1));
        edge.onlyAnswers(play, -1, () -> play.limb(0, Edge.TOP));
        edge.onlyAnswers(play, -1, () -> play.limb(1, Edge.TOP));
        play.tried(13, 9, 10, 9, 9);
        edge.onlyAnswers(play, -1, () -> play.limb(0, 2));
        edge.onlyAnswers(play, -1, () -> play.limb(1, 2));
    }

    static void p30_iIsTooSmall(Edge edge) {
        SchoolPlay play = withFraction();
        edge.bad(play, () -> play.limb(0, -1));
        edge.bad(play, () -> play.limb(1, -1));
        edge.bad(play, () -> play.limb(1, Edge.LOW));
    }

    static void p30_neitherAboveNorBelow(Edge edge) {
        SchoolPlay play = withFraction();
        edge.bad(play, () -> play.limb(-1, 0));
        edge.bad(play, () -> play.limb(2, 0));
        edge.bad(play, () -> play.limb(2, 9));
        edge.bad(play, () -> play.limb(Edge.TOP, Edge.TOP));
        edge.bad(play, () -> play.limb(Edge.LOW, 0));
    }

    static void p31_noSuchImage(Edge edge) {
        SchoolPlay play = withFraction();
        edge.bad(play, () -> play.image(-1));
        edge.bad(play, () -> play.image(2));
        edge.bad(play, () -> play.image(Edge.TOP));
        edge.bad(play, () -> play.image(Edge.LOW));
        edge.is("none was kept", play.from(0) + play.from(1), -6);
    }

    static void p31_anImageOfNothing(Edge edge) {
        SchoolPlay play = new SchoolPlay();
        edge.onlyAnswers(play, 1, () -> play.image(0));
        Texts.read(play, PART + CHILD);
        play.year(0);
        edge.is("from it", play.from(0), 1);
        edge.is("nothing", play.digest(), new SchoolPlay().digest());
    }

    static void p31_keptAnewItIsTheLast(Edge edge) {
        SchoolPlay play = new SchoolPlay();
        play.image(1);
        play.year(0);
        play.image(1);
        play.year(1);
        play.from(1);
        edge.is(play.count(3), 1);
    }

    static void p31_imagesAreTwo(Edge edge) {
        SchoolPlay play = new SchoolPlay();
        play.year(0);
        play.image(0);
        play.year(1);
        play.image(1);
        play.from(0);
        edge.is("the first", play.count(3), 1);
        play.from(1);
        edge.is("the second", play.count(3), 2);
    }

    static void p31_whatIsKeptDoesNotChange(Edge edge) {
        SchoolPlay play = edge.of("part 0 9 0;part 0 9 0;child 1 9 0 0 0;child 1 0 0 0 0;scene 1 0;scene 1 1;wish 0 1;");
        play.cast(0, 0);
        play.cast(1, 1);
        play.behind(1, 0);
        play.rehearse(0, 20);
        play.rehearse(1, 5);
        play.put(0, 2);
        play.put(1, 1);
        play.year(1);
        long before = play.digest();
        play.image(0);
        play.cast(0, -1);
        play.cast(1, 0);
        play.behind(1, 1);
        play.rehearse(0, 40);
        play.night();
        play.put(0, 0);
        play.put(1, 0);
        play.forget();
        play.year(0);
        Texts.read(play, " " + PART.repeat(6) + CHILD.repeat(6) + "scene 9 0 1;scene 8 5;wish 0 5 4 3;wish 1 0;");
        edge.is("from it", play.from(0), 1);
        edge.is("digest", play.digest(), before);
        edge.is("wishes", play.fit(0, 1), 16);
    }

    static void p32_noSuchImage(Edge edge) {
        SchoolPlay play = withFraction();
        play.image(0);
        play.image(1);
        edge.bad(play, () -> play.from(-1));
        edge.bad(play, () -> play.from(2));
        edge.bad(play, () -> play.from(Edge.TOP));
        edge.bad(play, () -> play.from(Edge.LOW));
    }

    static void p32_noneWasKept(Edge edge) {
        SchoolPlay play = withFraction();
        edge.no(play, () -> play.from(0));
        edge.no(play, () -> play.from(1));
        play.image(1);
        edge.no(play, () -> play.from(0));
        edge.onlyAnswers(play, 1, () -> play.from(1));
    }

    static void p32_theFractionGoesOn(Edge edge) {
        SchoolPlay play = new SchoolPlay();
        play.image(0);
        play.tried(10, 8, 2, 2, 2);
        play.from(0);
        edge.fraction("as it was", play, 16, 17);
    }

    static void p32_statusGoesOn(Edge edge) {
        SchoolPlay play = new SchoolPlay();
        play.image(0);
        play.known(0);
        play.from(1);
        Texts.type(play, " ".repeat(240));
        play.type(32, 1);
        play.from(0);
        edge.status(play, 1, 1, 1);
    }

    static void p32_imagesGoOn(Edge edge) {
        SchoolPlay play = new SchoolPlay();
        play.image(0);
        play.year(0);
        play.image(1);
        play.from(0);
        edge.is("that kept later is still there", play.from(1), 1);
        edge.is("as it was kept", play.count(3), 1);
    }

    static void p32_twiceFromOne(Edge edge) {
        SchoolPlay play = new SchoolPlay();
        play.year(0);
        play.image(0);
        play.from(0);
        play.year(0);
        play.from(0);
        edge.is(play.count(3), 1);
    }

    static void p33_noSuchReason(Edge edge) {
        SchoolPlay play = new SchoolPlay();
        edge.refused(play, Edge.BAD, -1, () -> play.status(-1));
        edge.refused(play, Edge.BAD, -1, () -> play.status(3));
        edge.refused(play, Edge.BAD, -1, () -> play.status(Edge.TOP));
        edge.refused(play, Edge.BAD, -1, () -> play.status(Edge.LOW));
        edge.status(play, 4, 0, 0);
    }

    static void p33_askingIsNotRefused(Edge edge) {
        SchoolPlay play = new SchoolPlay();
        for (int what = 0; what < 3; what++) {
            int asked = what;
            edge.onlyAnswers(play, 0, () -> play.status(asked));
        }
    }

    static void p33_noneIsNoRefusal(Edge edge) {
        SchoolPlay play = edge.of(PART + CHILD);
        play.next();
        play.lots(0, 0);
        play.gains(1);
        play.limb(0, 9);
        play.cast(0, -1);
        play.behind(0, -1);
        new SchoolPlay().cut();
        edge.status(play, 0, 0, 0);
    }

    static void p33_asManyAsThereAreCalls(Edge edge) {
        SchoolPlay play = new SchoolPlay();
        for (int i = 0; i < 500; i++) {
            play.known(0);
        }
        edge.status(play, 500, 0, 0);
    }

    static void p34_thereIsNothing(Edge edge) {
        SchoolPlay play = new SchoolPlay();
        for (int what = 0; what < 5; what++) {
            int asked = what;
            edge.onlyAnswers(play, 0, () -> play.count(asked));
        }
    }

    static void p34_thereIsAllThatCanBe(Edge edge) {
        SchoolPlay play = edge.of(PART.repeat(6) + CHILD.repeat(6) + "scene 1 0;".repeat(7) + " ".repeat(8));
        for (int i = 0; i < 11; i++) {
            play.year(0);
        }
        play.type(32, 1);
        int[] most = {6, 6, 7, 10, 240};
        for (int what = 0; what < 5; what++) {
            edge.is("count " + what, play.count(what), most[what]);
        }
        edge.status(play, 0, 0, 2);
    }

    static void p34_noSuchWhat(Edge edge) {
        SchoolPlay play = edge.of(PART);
        edge.bad(play, () -> play.count(-1));
        edge.bad(play, () -> play.count(5));
        edge.bad(play, () -> play.count(Edge.TOP));
        edge.bad(play, () -> play.count(Edge.LOW));
    }

    /** 31 h + v without an end to the numbers, then the lowest 64 bits. */
    private static long wrapped(int... row) {
        BigInteger h = BigInteger.valueOf(607);
        for (int v : row) {
            h = h.multiply(BigInteger.valueOf(31)).add(BigInteger.valueOf(v));
        }
        return h.longValue();
    }

    static void p35_itWrapsAround(Edge edge) {
        SchoolPlay play = new SchoolPlay();
        int[] row = new int[251];
        row[4] = 240;
        for (int i = 0; i < 240; i++) {
            row[7 + i] = 255 - i % 7;
            play.type(255 - i % 7, 1);
        }
        row[249] = 1;
        row[250] = 1;
        edge.is(play.digest(), wrapped(row));
    }

    static void p35_allOfAFullPlay(Edge edge) {
        StringBuilder text = new StringBuilder();
        for (int i = 0; i < 6; i++) {
            text.append("part").append(i).append(' ').append(i + 1).append(' ').append(i + 2).append(';');
            text.append("child").append(i + 1).append(' ').append(i + 2).append(" 3 4 ").append(i + 5).append(';');
        }
        for (int i = 0; i < 7; i++) {
            text.append("scene").append(i + 1).append(" 5;");
        }
        SchoolPlay play = edge.of(text.toString());
        play.clear();
        edge.is(play.digest(), wrapped(6, 6, 7, 0, 0,
                0, 1, 2, -1, -1, 0, 1, 2, 3, -1, -1, 0, 2, 3, 4, -1, -1, 0,
                3, 4, 5, -1, -1, 0, 4, 5, 6, -1, -1, 0, 5, 6, 7, -1, -1, 0,
                1, 2, 3, 4, 5, -1, -1, -1, 0, 2, 3, 3, 4, 6, -1, -1, -1, 0, 3, 4, 3, 4, 7, -1, -1, -1, 0,
                4, 5, 3, 4, 8, -1, -1, -1, 0, 5, 6, 3, 4, 9, -1, -1, -1, 0, 6, 7, 3, 4, 10, -1, -1, -1, 0,
                1, 32, 2, 32, 3, 32, 4, 32, 5, 32, 6, 32, 7, 32,
                0, 0, 0, 0, 1, 1));
    }

    static void p35_allThatCanBeOtherThanNothing(Edge edge) {
        SchoolPlay play = edge.of("part 6 9 8;part 5 9 7;child 1 2 3 4 5;child 6 7 8 9 19;"
                + "scene 20 0 1;scene 10 1;wish 0 1 0;wish 1 0;");
        play.cast(0, 1);
        play.cast(1, 0);
        play.behind(0, 0);
        play.behind(1, 1);
        play.rehearse(0, 2);
        play.rehearse(1, 3);
        play.clear();
        play.type(0x3B80, 2);
        play.put(0, 3);
        play.put(1, 1);
        play.year(1);
        play.year(0);
        play.year(1);
        play.odds();
        edge.is(play.digest(), wrapped(2, 2, 2, 3, 2,
                6, 9, 8, 1, 0, 12, 5, 9, 7, 0, 1, 5,
                1, 2, 3, 4, 5, 1, 0, -1, 0, 6, 7, 8, 9, 19, 0, -1, -1, 3,
                20, 3, 10, 2, 3, 1, 0x3B, 0x80, 1, 0, 1, 1, 1, 1, 3, 80));
    }

    static void p35_oneByOne(Edge edge) {
        SchoolPlay play = new SchoolPlay();
        play.odds();
        edge.is(play.digest(), wrapped(0, 0, 0, 0, 0, 0, 0, 1, 1, 1, 1, 1));
    }

    static void p35_statusAndImagesAreNotInIt(Edge edge) {
        SchoolPlay play = new SchoolPlay();
        long before = play.digest();
        play.known(0);
        play.from(0);
        play.image(0);
        edge.is(play.digest(), before);
    }

    static void p35_itChangesNothing(Edge edge) {
        SchoolPlay play = edge.of(PART + CHILD);
        long before = play.digest();
        edge.is("again", play.digest(), before);
        edge.status(play, 0, 0, 0);
    }

    static void p35_limbsOfAFractionOfTwo(Edge edge) {
        SchoolPlay play = new SchoolPlay();
        play.tried(13, 9, 10, 9, 9);
        edge.is(play.digest(), Edge.mixed(0, 0, 0, 0, 0, 0, 0, 1, 2, 2, 741499061, 4, 225306293, 11));
    }
}
