/** Boundary cases of promises 6 to 11: FIT, CLASHES, castings. */
final class CastingEdges {
    private static final int PLAIN = 0, WANTED = 1, LARGE = 2, SMALL = 3, GROWN = 4, SILENT = 5, SHADOW = 6;
    private static final String[] WISHES = {"", "wish 0 0;", "wish 0 1 0;", "wish 0 1 2 0;"};
    private static final String PART = "part 0 0 0;", CHILD = "child 1 0 0 0 0;";

    private CastingEdges() {
    }

    /** FIT for a PART with NEED 0, so that VOICE is how far it is; the wish is 1 to 3, or 0 for none. */
    private static int fit(Edge edge, int kind, int learn, int voice, int dread, int wish) {
        SchoolPlay play = edge.of("part " + kind + " 9 0;" + PART + PART
                + "child " + learn + " 0 " + voice + " " + dread + " 0;" + WISHES[wish]);
        return play.fit(0, 0);
    }

    static void p06_plainFromOneToSixteen(Edge edge) {
        edge.is("far, not wished", fit(edge, PLAIN, 1, 9, 9, 0), 1);
        edge.is("near, not wished", fit(edge, PLAIN, 9, 0, 0, 0), 10);
        edge.is("near, wished first", fit(edge, PLAIN, 9, 0, 0, 1), 16);
        edge.is("near, wished second", fit(edge, PLAIN, 9, 0, 0, 2), 14);
        edge.is("near, wished third", fit(edge, PLAIN, 9, 0, 0, 3), 12);
    }

    static void p06_voiceOverOrUnderNeed(Edge edge) {
        SchoolPlay play = edge.of("part 0 0 9;part 0 0 0;child 1 0 0 0 0;child 1 0 9 0 0;");
        edge.is("9 under", play.fit(0, 0), 1);
        edge.is("9 over", play.fit(1, 1), 1);
        edge.is("none", play.fit(1, 0), 10);
    }

    static void p06_wantedOnceMore(Edge edge) {
        edge.is("not wished", fit(edge, WANTED, 1, 0, 0, 0), 10);
        edge.is("first", fit(edge, WANTED, 1, 0, 0, 1), 22);
        edge.is("second", fit(edge, WANTED, 1, 0, 0, 2), 18);
        edge.is("third, far", fit(edge, WANTED, 1, 9, 0, 3), 5);
    }

    static void p06_largeIsNothingAtLeast(Edge edge) {
        edge.is("1 + 1 - 9", fit(edge, LARGE, 1, 9, 9, 0), 0);
        edge.is("3 + 1 - 5", fit(edge, LARGE, 1, 7, 5, 0), 0);
        edge.is("3 + 1 - 4", fit(edge, LARGE, 1, 7, 4, 0), 0);
        edge.is("3 + 1 - 3", fit(edge, LARGE, 1, 7, 3, 0), 1);
    }

    static void p06_largeAtMost(Edge edge) {
        edge.is("16 + 9", fit(edge, LARGE, 9, 0, 0, 1), 25);
    }

    static void p06_smallIsFiveAtLeast(Edge edge) {
        edge.is("1", fit(edge, SMALL, 1, 9, 0, 0), 5);
        edge.is("4", fit(edge, SMALL, 1, 6, 0, 0), 5);
        edge.is("5", fit(edge, SMALL, 1, 5, 0, 0), 5);
        edge.is("6", fit(edge, SMALL, 1, 4, 0, 0), 6);
        edge.is("16", fit(edge, SMALL, 1, 0, 9, 1), 16);
    }

    static void p06_grownIsHalfAndCut(Edge edge) {
        edge.is("5 at least, by 2", fit(edge, GROWN, 1, 9, 0, 0), 2);
        edge.is("6 by 2", fit(edge, GROWN, 1, 4, 0, 0), 3);
        edge.is("7 by 2", fit(edge, GROWN, 1, 3, 0, 0), 3);
        edge.is("16 by 2", fit(edge, GROWN, 1, 0, 0, 1), 8);
    }

    static void p06_silentHasDreadMore(Edge edge) {
        edge.is("5 at least, and 0", fit(edge, SILENT, 1, 9, 0, 0), 5);
        edge.is("5 at least, and 9", fit(edge, SILENT, 1, 9, 9, 0), 14);
        edge.is("16 and 9", fit(edge, SILENT, 1, 0, 9, 1), 25);
    }

    static void p06_shadowIsHalfAndCut(Edge edge) {
        edge.is("0 at least, by 2", fit(edge, SHADOW, 1, 9, 9, 0), 0);
        edge.is("0 at least, by 2, of -1", fit(edge, SHADOW, 1, 7, 5, 0), 0);
        edge.is("1 by 2", fit(edge, SHADOW, 1, 7, 3, 0), 0);
        edge.is("25 by 2", fit(edge, SHADOW, 9, 0, 0, 1), 12);
    }

    static void p06_theLastChildAndPart(Edge edge) {
        SchoolPlay play = edge.of(PART.repeat(5) + "part 1 0 3;" + CHILD.repeat(5) + "child 1 0 5 0 0;wish 5 5;");
        edge.is(play.fit(5, 5), 20);
    }

    static void p06_noSuchChild(Edge edge) {
        SchoolPlay play = edge.of(PART + PART + CHILD);
        edge.bad(play, () -> play.fit(-1, 0));
        edge.bad(play, () -> play.fit(1, 0));
        edge.bad(play, () -> play.fit(Edge.TOP, 0));
        edge.bad(play, () -> play.fit(Edge.LOW, 0));
    }

    static void p06_noSuchPart(Edge edge) {
        SchoolPlay play = edge.of(PART + CHILD + CHILD);
        edge.bad(play, () -> play.fit(0, -1));
        edge.bad(play, () -> play.fit(0, 1));
        edge.bad(play, () -> play.fit(0, Edge.TOP));
        edge.bad(play, () -> play.fit(0, Edge.LOW));
    }

    static void p06_noneAtAll(Edge edge) {
        SchoolPlay play = new SchoolPlay();
        edge.bad(play, () -> play.fit(0, 0));
        SchoolPlay full = edge.of(PART.repeat(6) + CHILD.repeat(6));
        edge.bad(full, () -> full.fit(6, 0));
        edge.bad(full, () -> full.fit(0, 6));
    }

    /** PART 0 in the first SCENE, PART 1 so many SCENES later. */
    private static SchoolPlay apart(Edge edge, int scenes) {
        return edge.of(PART.repeat(3) + "scene 1 0;" + "scene 1 2;".repeat(scenes - 1) + "scene 1 1;");
    }

    static void p07_inOneSceneTheyAlwaysClash(Edge edge) {
        SchoolPlay play = edge.of(PART + PART + "scene 1 0 1;");
        for (int change = 0; change < 4; change++) {
            play.put(0, change);
            edge.is("CHANGE " + change, play.clash(0, 1), 1);
        }
    }

    static void p07_noMoreThanChangeApart(Edge edge) {
        for (int far = 1; far <= 6; far++) {
            SchoolPlay play = apart(edge, far);
            for (int change = 0; change < 4; change++) {
                play.put(0, change);
                edge.is(far + " apart, CHANGE " + change, play.clash(0, 1), far <= change ? 1 : 0);
                edge.is(far + " apart, the other way", play.clash(1, 0), far <= change ? 1 : 0);
            }
        }
    }

    static void p07_partsOfNoScene(Edge edge) {
        SchoolPlay play = edge.of(PART.repeat(3) + "scene 1 0;");
        play.put(0, 3);
        edge.is("one", play.clash(0, 1), 0);
        edge.is("both", play.clash(1, 2), 0);
    }

    static void p07_oneOfManyScenesIsEnough(Edge edge) {
        SchoolPlay play = edge.of(PART + PART + "scene 1 0;".repeat(6) + "scene 1 0 1;");
        edge.is(play.clash(0, 1), 1);
    }

    static void p07_alike(Edge edge) {
        SchoolPlay play = edge.of(PART + PART + "scene 1 0 1;");
        edge.bad(play, () -> play.clash(0, 0));
        edge.bad(play, () -> play.clash(1, 1));
        edge.bad(play, () -> play.clash(7, 7));
    }

    static void p07_noSuchPart(Edge edge) {
        SchoolPlay play = edge.of(PART + PART + "scene 1 0 1;");
        edge.bad(play, () -> play.clash(-1, 0));
        edge.bad(play, () -> play.clash(2, 0));
        edge.bad(play, () -> play.clash(0, -1));
        edge.bad(play, () -> play.clash(0, 2));
        edge.bad(play, () -> play.clash(Edge.TOP, Edge.LOW));
        SchoolPlay none = new SchoolPlay();
        edge.bad(none, () -> none.clash(0, 1));
    }

    static void p08_noPartsAndNoChildren(Edge edge) {
        SchoolPlay play = new SchoolPlay();
        edge.onlyAnswers(play, 0, () -> play.best(-1));
        play.put(1, 1);
        edge.onlyAnswers(play, 0, () -> play.best(-1));
    }

    static void p08_childrenWithoutParts(Edge edge) {
        SchoolPlay play = edge.of(CHILD);
        edge.onlyAnswers(play, 0, () -> play.best(-1));
        play.put(1, 1);
        edge.noTwenty(play, () -> play.best(-1));
    }

    static void p08_partsWithoutChildren(Edge edge) {
        SchoolPlay play = edge.of(PART);
        edge.noTwenty(play, () -> play.best(-1));
        edge.noTwenty(play, () -> play.best(0));
    }

    static void p08_oneChildForAllParts(Edge edge) {
        SchoolPlay play = edge.of(PART.repeat(6) + CHILD);
        edge.is("six times 10", play.best(-1), 60);
        edge.is("the last part", play.best(5), 0);
    }

    static void p08_allPartsClashAndAllChildrenAreNeeded(Edge edge) {
        SchoolPlay play = edge.of(PART.repeat(6) + CHILD.repeat(6) + "scene 1 0 1 2 3 4 5;");
        edge.is("six times 10", play.best(-1), 60);
        for (int p = 0; p < 6; p++) {
            edge.is("the first row", play.best(p), p);
        }
    }

    static void p08_aChildTooFew(Edge edge) {
        SchoolPlay play = edge.of(PART.repeat(6) + CHILD.repeat(5) + "scene 1 0 1 2 3 4 5;");
        edge.noTwenty(play, () -> play.best(-1));
        edge.noTwenty(play, () -> play.best(5));
    }

    static void p08_eachWithAsManyChildrenAsParts(Edge edge) {
        SchoolPlay play = edge.of("part 0 0 0;part 0 0 0;child 1 0 0 0 0;child 1 0 9 0 0;");
        edge.is("10 and 10", play.best(-1), 20);
        play.put(1, 1);
        edge.is("10 and 1", play.best(-1), 11);
        edge.is("the first of two like rows", play.best(0), 0);
        edge.is("the first of two like rows", play.best(1), 1);
    }

    static void p08_eachWithAChildTooMany(Edge edge) {
        SchoolPlay play = edge.of(PART + PART + CHILD.repeat(3));
        edge.is("without EACH", play.best(1), 0);
        play.put(1, 1);
        edge.noTwenty(play, () -> play.best(1));
    }

    static void p08_ofLikeOnesTheFirstRow(Edge edge) {
        SchoolPlay play = edge.of(PART.repeat(3) + CHILD.repeat(3) + "scene 1 0 2;");
        edge.is("PART 0", play.best(0), 0);
        edge.is("PART 1", play.best(1), 0);
        edge.is("PART 2", play.best(2), 1);
    }

    static void p08_aLaterRowWithOneMore(Edge edge) {
        SchoolPlay play = edge.of("part 0 0 0;part 0 0 0;child 1 0 1 0 0;child 1 0 0 0 0;scene 1 0;");
        edge.is("10 and 10", play.best(-1), 20);
        edge.is("PART 0", play.best(0), 1);
        edge.is("PART 1", play.best(1), 1);
    }

    static void p08_theLastRowOfAll(Edge edge) {
        SchoolPlay play = edge.of("part 0 0 0;part 0 0 9;child 1 0 9 0 0;child 1 0 0 0 0;scene 1 0 1;");
        edge.is("10 and 10", play.best(-1), 20);
        edge.is("PART 0", play.best(0), 1);
        edge.is("PART 1", play.best(1), 0);
    }

    static void p08_oneMoreByTheFirstChildAtTheEnd(Edge edge) {
        SchoolPlay play = edge.of("part 0 0 8;part 0 0 9;child 1 0 9 0 0;child 1 0 8 0 0;");
        edge.is("10 and 10; all others have one less", play.best(-1), 20);
        edge.is("PART 0", play.best(0), 1);
        edge.is("PART 1", play.best(1), 0);
    }

    static void p08_ofSixPartsTheFirstForAnother(Edge edge) {
        SchoolPlay play = edge.of(PART + "part 0 0 9;".repeat(5) + "child 1 0 9 0 0;child 1 0 0 0 0;");
        edge.is("six times 10", play.best(-1), 60);
        edge.is("PART 0", play.best(0), 1);
        edge.is("PART 5", play.best(5), 0);
    }

    static void p08_behindALargerPlay(Edge edge) {
        SchoolPlay play = edge.of(PART.repeat(6) + CHILD.repeat(6) + "scene 1 0 1 2;");
        edge.is("of the larger one", play.hot(0, -1), 6);
        Texts.read(play, "part 0 0 0;part 0 0 0;child 1 0 9 0 0;child 1 0 0 0 0;");
        edge.is("10 and 10", play.best(-1), 20);
        edge.is("PART 1", play.best(1), 1);
    }

    static void p08_changeLeavesNone(Edge edge) {
        SchoolPlay play = edge.of(PART + PART + CHILD + "scene 1 0;scene 1 1;");
        edge.is("CHANGE 0", play.best(-1), 20);
        play.put(0, 1);
        edge.noTwenty(play, () -> play.best(-1));
        play.put(0, 0);
        edge.is("CHANGE 0 again", play.best(-1), 20);
    }

    static void p08_noSuchPart(Edge edge) {
        SchoolPlay play = edge.of(PART + CHILD);
        edge.badTen(play, () -> play.best(1));
        edge.badTen(play, () -> play.best(-2));
        edge.badTen(play, () -> play.best(Edge.TOP));
        edge.badTen(play, () -> play.best(Edge.LOW));
        SchoolPlay none = new SchoolPlay();
        edge.badTen(none, () -> none.best(0));
    }

    static void p08_badIsAheadOfNo(Edge edge) {
        SchoolPlay play = edge.of(PART);
        edge.badTen(play, () -> play.best(1));
    }

    static void p08_nobodyIsCastByIt(Edge edge) {
        SchoolPlay play = edge.of(PART + CHILD);
        edge.onlyAnswers(play, 10, () -> play.best(-1));
        edge.is("CAST", play.cast(0, -1), -1);
    }

    static void p09_noParts(Edge edge) {
        SchoolPlay play = new SchoolPlay();
        edge.onlyAnswers(play, 0, play::fewest);
    }

    static void p09_onePart(Edge edge) {
        edge.is(edge.of(PART + "scene 1 0;").fewest(), 1);
    }

    static void p09_partsOfNoSceneAreForOne(Edge edge) {
        edge.is(edge.of(PART.repeat(6)).fewest(), 1);
    }

    static void p09_allPartsInOneScene(Edge edge) {
        edge.is("six", edge.of(PART.repeat(6) + "scene 1 0 1 2 3 4 5;").fewest(), 6);
        edge.is("no matter how few children there are",
                edge.of(PART.repeat(6) + CHILD + "scene 1 0 1 2 3 4 5;").fewest(), 6);
    }

    static void p09_changeFromNothingToThree(Edge edge) {
        SchoolPlay play = edge.of(PART.repeat(5) + "scene 1 0;scene 1 1;scene 1 2;scene 1 3;scene 1 4;");
        for (int change = 0; change < 4; change++) {
            play.put(0, change);
            edge.is("CHANGE " + change, play.fewest(), change + 1);
        }
    }

    static void p09_changeFromThreeToNothing(Edge edge) {
        SchoolPlay play = edge.of(PART.repeat(5) + "scene 1 0;scene 1 1;scene 1 2;scene 1 3;scene 1 4;");
        for (int change = 3; change >= 0; change--) {
            play.put(0, change);
            edge.is("CHANGE " + change, play.fewest(), change + 1);
        }
    }

    static void p09_theFirstTwoAreBetterForTwo(Edge edge) {
        edge.is(edge.of(PART.repeat(4) + "scene 1 0 2;scene 1 2 3;scene 1 1 3;").fewest(), 2);
    }

    static void p09_behindALargerPlay(Edge edge) {
        SchoolPlay play = edge.of(PART.repeat(6) + "scene 1 0 1 2 3 4 5;");
        edge.is("six", play.fewest(), 6);
        Texts.read(play, PART + PART);
        edge.is("two that do not clash", play.fewest(), 1);
    }

    static void p09_eachDoesNotMatter(Edge edge) {
        SchoolPlay play = edge.of(PART + PART + CHILD + CHILD);
        play.put(1, 1);
        edge.is(play.fewest(), 1);
    }

    static void p10_nobodyAtFirstAndNobodyAgain(Edge edge) {
        SchoolPlay play = edge.of(PART + CHILD);
        edge.is("nobody had it", play.cast(0, -1), -1);
        edge.is("nobody had it", play.cast(0, 0), -1);
        edge.is("who had it", play.cast(0, 0), 0);
        edge.is("who had it", play.cast(0, -1), 0);
        edge.is("nobody had it", play.cast(0, -1), -1);
    }

    static void p10_theLastPartAndChild(Edge edge) {
        SchoolPlay play = edge.of(PART.repeat(6) + CHILD.repeat(6));
        edge.is("nobody had it", play.cast(5, 5), -1);
        edge.is("who had it", play.cast(5, 0), 5);
    }

    static void p10_clashesOrNot(Edge edge) {
        SchoolPlay play = edge.of(PART + PART + CHILD + "scene 1 0 1;");
        edge.is("one", play.cast(0, 0), -1);
        edge.is("both", play.cast(1, 0), -1);
        edge.is("both stay", play.cast(0, 0), 0);
    }

    static void p10_noSuchPart(Edge edge) {
        SchoolPlay play = edge.of(PART + CHILD + CHILD);
        edge.badTen(play, () -> play.cast(-1, 0));
        edge.badTen(play, () -> play.cast(1, 0));
        edge.badTen(play, () -> play.cast(Edge.TOP, -1));
        edge.badTen(play, () -> play.cast(Edge.LOW, -1));
        SchoolPlay none = new SchoolPlay();
        edge.badTen(none, () -> none.cast(0, -1));
    }

    static void p10_noSuchChild(Edge edge) {
        SchoolPlay play = edge.of(PART + PART + CHILD);
        play.cast(0, 0);
        edge.badTen(play, () -> play.cast(0, 1));
        edge.badTen(play, () -> play.cast(0, -2));
        edge.badTen(play, () -> play.cast(0, Edge.TOP));
        edge.badTen(play, () -> play.cast(0, Edge.LOW));
        SchoolPlay nobody = edge.of(PART);
        edge.badTen(nobody, () -> nobody.cast(0, 0));
        edge.is("nobody can always have it", nobody.cast(0, -1), -1);
    }

    static void p11_noParts(Edge edge) {
        SchoolPlay play = new SchoolPlay();
        edge.onlyAnswers(play, 0, play::takeBest);
    }

    static void p11_noChildren(Edge edge) {
        SchoolPlay play = edge.of(PART);
        edge.no(play, play::takeBest);
    }

    static void p11_noCastingLeavesCastAsItIs(Edge edge) {
        SchoolPlay play = edge.of(PART + PART + CHILD + "scene 1 0 1;");
        play.cast(0, 0);
        edge.no(play, play::takeBest);
        edge.is("PART 0", play.cast(0, -1), 0);
        edge.is("PART 1", play.cast(1, -1), -1);
    }

    static void p11_eachWithAChildTooMany(Edge edge) {
        SchoolPlay play = edge.of(PART + CHILD + CHILD);
        play.put(1, 1);
        edge.no(play, play::takeBest);
    }

    static void p11_childrenWithoutPartsAndEach(Edge edge) {
        SchoolPlay play = edge.of(CHILD);
        play.put(1, 1);
        edge.no(play, play::takeBest);
    }

    static void p11_allOfCastIsAnother(Edge edge) {
        SchoolPlay play = edge.of(PART.repeat(6) + CHILD.repeat(6) + "scene 1 0 1 2 3 4 5;");
        for (int p = 0; p < 6; p++) {
            play.cast(p, 5 - p);
        }
        edge.is("FIT of all", play.takeBest(), 60);
        for (int p = 0; p < 6; p++) {
            edge.is("PART " + p, play.cast(p, -1), p);
        }
    }

    static void p11_whatIsKnownAndWhoIsBehindStay(Edge edge) {
        SchoolPlay play = edge.of("part 0 9 0;child 1 0 9 0 0;child 1 0 0 0 0;scene 1 0;");
        play.cast(0, 0);
        play.behind(0, 0);
        play.rehearse(0, 7);
        edge.is("FIT of all", play.takeBest(), 10);
        edge.is("KNOWN", play.known(0), 7);
        edge.is("BEHIND", play.behind(0, -1), 0);
        edge.is("CAST", play.cast(0, -1), 1);
    }
}
