/** Boundary cases of promises 1 to 3 and 5: a new object, THE BOOK's bytes, the NUMBERS. */
final class BookEdges {
    private BookEdges() {
    }

    private static SchoolPlay withBytes(int n) {
        SchoolPlay play = new SchoolPlay();
        Texts.type(play, " ".repeat(n));
        return play;
    }

    static void p01_nothingIsThere(Edge edge) {
        SchoolPlay play = new SchoolPlay();
        for (int what = 0; what < 5; what++) {
            edge.is("count " + what, play.count(what), 0);
        }
    }

    static void p01_theFractionIsNothingByOne(Edge edge) {
        edge.fraction("at first", new SchoolPlay(), 0, 1);
    }

    static void p01_changeAndEachAreNothing(Edge edge) {
        SchoolPlay play = new SchoolPlay();
        edge.is("CHANGE", play.put(0, 3), 0);
        edge.is("EACH", play.put(1, 1), 0);
    }

    static void p01_nothingWasRefused(Edge edge) {
        edge.status(new SchoolPlay(), 0, 0, 0);
    }

    static void p01_digestOfNothing(Edge edge) {
        edge.is(new SchoolPlay().digest(), Edge.mixed(0, 0, 0, 0, 0, 0, 0, 0, 0, 1, 1));
    }

    static void p01_objectsHaveNothingTogether(Edge edge) {
        SchoolPlay one = new SchoolPlay();
        SchoolPlay other = new SchoolPlay();
        Texts.read(one, "part 0 0 0;child 1 0 0 0 0;");
        one.image(0);
        one.year(0);
        one.put(0, 3);
        one.known(9);
        one.odds();
        edge.is("digest", other.digest(), new SchoolPlay().digest());
        edge.is("image", other.from(0), -3);
        edge.status(other, 0, 1, 0);
    }

    static void p02_nIsTooSmall(Edge edge) {
        SchoolPlay play = withBytes(3);
        edge.bad(play, () -> play.type(97, 0));
        edge.bad(play, () -> play.type(97, -1));
        edge.bad(play, () -> play.type(97, Edge.LOW));
    }

    static void p02_nIsTooLarge(Edge edge) {
        SchoolPlay play = withBytes(3);
        edge.bad(play, () -> play.type(97, 9));
        edge.bad(play, () -> play.type(97, 64));
        edge.bad(play, () -> play.type(97, Edge.TOP));
    }

    static void p02_oneByteIsTheLowest(Edge edge) {
        SchoolPlay play = new SchoolPlay();
        edge.is("how many", play.type(0x1122334455667788L, 1), 1);
        edge.is("digest", play.digest(), Edge.mixed(0, 0, 0, 0, 1, 0, 0, 0x88, 0, 0, 1, 1));
    }

    static void p02_eightBytesAreAllTheHighestFirst(Edge edge) {
        SchoolPlay play = new SchoolPlay();
        edge.is("how many", play.type(0x8122334455667701L, 8), 8);
        edge.is("digest", play.digest(), Edge.mixed(0, 0, 0, 0, 8, 0, 0,
                0x81, 0x22, 0x33, 0x44, 0x55, 0x66, 0x77, 0x01, 0, 0, 1, 1));
    }

    static void p02_theLeastAndTheGreatestLong(Edge edge) {
        SchoolPlay play = new SchoolPlay();
        play.type(Long.MIN_VALUE, 8);
        play.type(Long.MAX_VALUE, 8);
        edge.is(play.digest(), Edge.mixed(0, 0, 0, 0, 16, 0, 0, 128, 0, 0, 0, 0, 0, 0, 0,
                127, 255, 255, 255, 255, 255, 255, 255, 0, 0, 1, 1));
    }

    static void p02_bytesOfNothingCome(Edge edge) {
        SchoolPlay play = new SchoolPlay();
        edge.is("how many", play.type(0, 3), 3);
        edge.is("read", play.read(), -10);
    }

    static void p02_240BytesAreNotTooMany(Edge edge) {
        edge.is("by one", withBytes(239).type(32, 1), 240);
        edge.is("by eight", withBytes(232).type(32, 8), 240);
    }

    static void p02_aByteMoreIsFull(Edge edge) {
        SchoolPlay play = withBytes(240);
        edge.full(play, () -> play.type(32, 1));
        edge.full(play, () -> play.type(32, 8));
    }

    static void p02_ofBytesThatAreTooManyNoneComes(Edge edge) {
        SchoolPlay play = withBytes(233);
        edge.full(play, () -> play.type(32, 8));
        edge.is("fewer still come", play.type(32, 7), 240);
    }

    static void p02_badIsAheadOfFull(Edge edge) {
        SchoolPlay play = withBytes(240);
        edge.bad(play, () -> play.type(32, 0));
        edge.bad(play, () -> play.type(32, 9));
        edge.bad(play, () -> play.type(32, Edge.TOP));
    }

    static void p02_aFullBookIsFilledAnewWhenItIsCleared(Edge edge) {
        SchoolPlay play = withBytes(240);
        play.clear();
        edge.is(play.type(32, 8), 8);
    }

    static void p03_anEmptyBook(Edge edge) {
        SchoolPlay play = new SchoolPlay();
        edge.onlyAnswers(play, 0, play::clear);
    }

    static void p03_aFullBook(Edge edge) {
        SchoolPlay play = withBytes(240);
        edge.is("how many it had", play.clear(), 240);
        edge.is("how many it has", play.count(4), 0);
        edge.is("digest", play.digest(), new SchoolPlay().digest());
    }

    static void p03_whatWasReadStays(Edge edge) {
        SchoolPlay play = edge.of("part 0 9 0;child 9 0 0 0 0;scene 1 0;wish 0 0;");
        play.cast(0, 0);
        play.behind(0, 0);
        play.rehearse(0, 1);
        edge.is("how many it had", play.clear(), 46);
        edge.is("digest", play.digest(), Edge.mixed(1, 1, 1, 0, 0, 0, 9, 0, 0, 0, 9,
                9, 0, 0, 0, 0, 0, -1, -1, 0, 1, 1, 0, 0, 0, 0, 1, 1));
    }

    static void p03_whatStoodThereIsNotReadAgain(Edge edge) {
        SchoolPlay play = edge.of("part 0 0 0;part 0 0 0;");
        play.clear();
        Texts.type(play, "part 0 0 0;");
        edge.is("items", play.read(), 1);
        edge.is("parts", play.count(0), 1);
    }

    static void p05_changeFromNothingToThree(Edge edge) {
        SchoolPlay play = new SchoolPlay();
        edge.is("3", play.put(0, 3), 0);
        edge.is("0", play.put(0, 0), 3);
        edge.is("1", play.put(0, 1), 0);
        edge.is("it was", play.put(0, 1), 1);
    }

    static void p05_changeIsTooSmallOrTooLarge(Edge edge) {
        SchoolPlay play = new SchoolPlay();
        play.put(0, 2);
        edge.bad(play, () -> play.put(0, -1));
        edge.bad(play, () -> play.put(0, 4));
        edge.bad(play, () -> play.put(0, Edge.LOW));
        edge.bad(play, () -> play.put(0, Edge.TOP));
        edge.is("it stays", play.put(0, 0), 2);
    }

    static void p05_eachIsNothingOrOne(Edge edge) {
        SchoolPlay play = new SchoolPlay();
        edge.is("1", play.put(1, 1), 0);
        edge.is("0", play.put(1, 0), 1);
        edge.is("CHANGE is another", play.put(0, 0), 0);
    }

    static void p05_eachIsTooSmallOrTooLarge(Edge edge) {
        SchoolPlay play = new SchoolPlay();
        play.put(1, 1);
        edge.bad(play, () -> play.put(1, -1));
        edge.bad(play, () -> play.put(1, 2));
        edge.bad(play, () -> play.put(1, 3));
        edge.is("it stays", play.put(1, 1), 1);
    }

    static void p05_noSuchNumber(Edge edge) {
        SchoolPlay play = new SchoolPlay();
        edge.bad(play, () -> play.put(-1, 0));
        edge.bad(play, () -> play.put(2, 0));
        edge.bad(play, () -> play.put(Edge.TOP, 1));
        edge.bad(play, () -> play.put(Edge.LOW, 1));
    }
}
