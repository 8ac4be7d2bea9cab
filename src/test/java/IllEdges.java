/** Boundary cases of promises 19 to 24: who is BEHIND, ODDS, NEXT, HOT, LOTS, GAINS. */
final class IllEdges {
    private static final String PART = "part 0 0 0;", TEN = "part 0 9 0;", CHILD = "child 1 0 0 0 0;";

    private IllEdges() {
    }

    private static String ill(int of) {
        return "child 1 0 0 0 " + of + ";";
    }

    private static SchoolPlay castInOrder(SchoolPlay play, int... children) {
        for (int p = 0; p < children.length; p++) {
            play.cast(p, children[p]);
        }
        return play;
    }

    private static void odds(Edge edge, String what, SchoolPlay play, long above, long below) {
        edge.is(what, play.odds(), 1);
        edge.fraction(what, play, above, below);
    }

    static void p19_nobodyAtFirstAndNobodyAgain(Edge edge) {
        SchoolPlay play = edge.of(PART + CHILD);
        edge.is("nobody did", play.behind(0, -1), -1);
        edge.is("nobody did", play.behind(0, 0), -1);
        edge.is("who did", play.behind(0, -1), 0);
        edge.is("nobody did", play.behind(0, -1), -1);
    }

    static void p19_theLastPartAndChild(Edge edge) {
        SchoolPlay play = edge.of(PART.repeat(6) + CHILD.repeat(6));
        edge.is("nobody did", play.behind(5, 5), -1);
        edge.is("who did", play.behind(5, 0), 5);
    }

    static void p19_whoHasItMayStandBehindIt(Edge edge) {
        SchoolPlay play = edge.of(PART + CHILD);
        play.cast(0, 0);
        edge.is("nobody did", play.behind(0, 0), -1);
        edge.is("who did", play.behind(0, 0), 0);
    }

    static void p19_noSuchPart(Edge edge) {
        SchoolPlay play = edge.of(PART + CHILD + CHILD);
        edge.badTen(play, () -> play.behind(-1, 0));
        edge.badTen(play, () -> play.behind(1, 0));
        edge.badTen(play, () -> play.behind(Edge.TOP, -1));
        edge.badTen(play, () -> play.behind(Edge.LOW, -1));
        SchoolPlay none = new SchoolPlay();
        edge.badTen(none, () -> none.behind(0, -1));
    }

    static void p19_noSuchChild(Edge edge) {
        SchoolPlay play = edge.of(PART + PART + CHILD);
        play.behind(0, 0);
        edge.badTen(play, () -> play.behind(0, 1));
        edge.badTen(play, () -> play.behind(0, -2));
        edge.badTen(play, () -> play.behind(0, Edge.TOP));
        edge.badTen(play, () -> play.behind(0, Edge.LOW));
        SchoolPlay nobody = edge.of(PART);
        edge.badTen(nobody, () -> nobody.behind(0, 0));
        edge.is("nobody can always stand there", nobody.behind(0, -1), -1);
    }

    static void p20_noParts(Edge edge) {
        odds(edge, "nothing at all", new SchoolPlay(), 1, 1);
        odds(edge, "children alone", edge.of(ill(19).repeat(6)), 1, 1);
    }

    static void p20_nobodyHasAPart(Edge edge) {
        odds(edge, "no children", edge.of(PART), 0, 1);
        odds(edge, "nobody", edge.of(PART + CHILD), 0, 1);
        SchoolPlay one = edge.of(PART + PART + CHILD);
        one.cast(0, 0);
        odds(edge, "one of two", one, 0, 1);
    }

    static void p20_neverIllAndMostlyIll(Edge edge) {
        odds(edge, "0 of 20", castInOrder(edge.of(PART + ill(0)), 0), 1, 1);
        odds(edge, "1 of 20", castInOrder(edge.of(PART + ill(1)), 0), 19, 20);
        odds(edge, "19 of 20", castInOrder(edge.of(PART + ill(19)), 0), 1, 20);
    }

    static void p20_sixThatAreMostlyIll(Edge edge) {
        SchoolPlay play = castInOrder(edge.of(PART.repeat(6) + ill(19).repeat(6)), 0, 1, 2, 3, 4, 5);
        odds(edge, "all six are well", play, 1, 64000000);
        for (int p = 0; p < 6; p++) {
            play.behind(p, 5 - p);
        }
        odds(edge, "in three pairs one is well", play, 39 * 39 * 39, 64000000);
    }

    static void p20_whoIsIllIsNotBehindEither(Edge edge) {
        SchoolPlay play = castInOrder(edge.of(PART + ill(5) + ill(10)), 0);
        play.behind(0, 0);
        odds(edge, "behind oneself", play, 3, 4);
        play.behind(0, 1);
        odds(edge, "15 by 20, or 5 by 20 and 10 by 20", play, 7, 8);
    }

    static void p20_whoIsBehindPlaysWhatNobodyHas(Edge edge) {
        SchoolPlay play = edge.of(PART + ill(5));
        play.behind(0, 0);
        odds(edge, "15 by 20", play, 3, 4);
    }

    static void p20_whoHasTwoThatClash(Edge edge) {
        SchoolPlay play = castInOrder(edge.of(PART + PART + CHILD + CHILD + "scene 1 0 1;"), 0, 0);
        odds(edge, "clash", play, 0, 1);
        play.behind(1, 1);
        odds(edge, "who is behind plays only for one that is ill", play, 0, 1);
    }

    static void p20_whoIsBehindClashes(Edge edge) {
        SchoolPlay play = castInOrder(edge.of(PART + PART + ill(5) + ill(0) + "scene 1 0;scene 1 1;"), 0, 1);
        play.behind(0, 1);
        odds(edge, "both by one", play, 1, 1);
        play.put(0, 1);
        odds(edge, "they clash", play, 3, 4);
    }

    static void p20_oneBehindTwoThatClash(Edge edge) {
        SchoolPlay play = castInOrder(edge.of(PART + PART + ill(0) + ill(10) + ill(10) + "scene 1 0 1;"), 1, 2);
        play.behind(0, 0);
        play.behind(1, 0);
        odds(edge, "it goes if one of two is well", play, 3, 4);
    }

    static void p20_whoHasNoPartDoesNotCount(Edge edge) {
        odds(edge, "of three", castInOrder(edge.of(PART + ill(19) + ill(10) + ill(19)), 1), 1, 2);
    }

    static void p20_nothingElseChanges(Edge edge) {
        SchoolPlay play = edge.of(PART + CHILD);
        play.odds();
        edge.onlyAnswers(play, 1, play::odds);
    }

    static void p21_noPartsOrNoChildren(Edge edge) {
        SchoolPlay nothing = new SchoolPlay();
        edge.onlyAnswers(nothing, -1, nothing::next);
        SchoolPlay parts = edge.of(PART);
        edge.onlyAnswers(parts, -1, parts::next);
        SchoolPlay children = edge.of(ill(10));
        edge.onlyAnswers(children, -1, children::next);
    }

    static void p21_whoHasItDoesNotStandBehindIt(Edge edge) {
        SchoolPlay play = castInOrder(edge.of(PART + ill(10)), 0);
        edge.onlyAnswers(play, -1, play::next);
    }

    static void p21_oddsAreOneAlready(Edge edge) {
        SchoolPlay play = castInOrder(edge.of(PART + CHILD + CHILD), 0);
        edge.onlyAnswers(play, -1, play::next);
    }

    static void p21_eachHasOneBehind(Edge edge) {
        SchoolPlay play = castInOrder(edge.of(PART + ill(10) + ill(19) + ill(0)), 0);
        edge.is("CHILD 2", play.next(), 2);
        play.behind(0, 1);
        edge.onlyAnswers(play, -1, play::next);
    }

    static void p21_oneAloneMakesItNotMore(Edge edge) {
        SchoolPlay play = edge.of(PART + PART + CHILD + CHILD);
        edge.onlyAnswers(play, -1, play::next);
        play.cast(0, 0);
        edge.is("the other", play.next(), 10);
    }

    static void p21_aClashMakesItNotMore(Edge edge) {
        SchoolPlay play = castInOrder(edge.of(PART + PART + ill(10) + ill(0) + "scene 1 0;scene 1 1;"), 0, 1);
        edge.is("both by one", play.next(), 1);
        play.put(0, 1);
        edge.onlyAnswers(play, -1, play::next);
    }

    static void p21_aLittleMoreIsMore(Edge edge) {
        SchoolPlay play = castInOrder(edge.of(PART + ill(1) + ill(19)), 0);
        edge.is(play.next(), 1);
    }

    static void p21_greatestIsAheadOfHours(Edge edge) {
        SchoolPlay play = castInOrder(edge.of(TEN + ill(10) + "child 9 0 0 0 10;child 1 0 0 0 9;"), 0);
        edge.is("9 hours, but more likely", play.next(), 2);
    }

    static void p21_hoursAreRoundedUp(Edge edge) {
        String three = ill(10) + "child 3 0 0 0 10;child 4 0 0 0 10;";
        edge.is("3 by 9 by 3, 3 by 9 by 4", castInOrder(edge.of("part 0 9 0;" + three), 0).next(), 1);
        edge.is("3 by 8 by 3, 2 by 8 by 4", castInOrder(edge.of("part 0 8 0;" + three), 0).next(), 2);
        edge.is("1 by 1 by 3, 1 by 1 by 4", castInOrder(edge.of("part 0 1 0;" + three), 0).next(), 1);
        edge.is("2 by 4 by 3, 1 by 4 by 4", castInOrder(edge.of("part 0 4 0;" + three), 0).next(), 2);
    }

    static void p21_fewerHoursThanTheFirstOfAll(Edge edge) {
        edge.is("9 hours, 1 hour", castInOrder(edge.of(TEN + ill(5) + "child 9 0 0 0 5;" + ill(10)), 2).next(), 1);
    }

    static void p21_noLinesNoHours(Edge edge) {
        edge.is(castInOrder(edge.of(PART + ill(10) + ill(10) + "child 9 0 0 0 10;"), 0).next(), 1);
    }

    static void p21_thenTheLeastPartThenChild(Edge edge) {
        String children = ill(10) + ill(10) + ill(0);
        edge.is("all alike", castInOrder(edge.of(TEN + TEN + children), 0, 1).next(), 1);
        edge.is("fewer hours of PART 1", castInOrder(edge.of("part 0 10 0;" + TEN + children), 0, 1).next(), 10);
    }

    static void p21_theLastPart(Edge edge) {
        SchoolPlay play = edge.of(TEN.repeat(6) + CHILD.repeat(4) + "child 9 0 0 0 0;" + ill(10));
        castInOrder(play, 0, 1, 2, 3, 4, 5);
        edge.onlyAnswers(play, 54, play::next);
    }

    static void p22_noParts(Edge edge) {
        SchoolPlay play = edge.of(CHILD);
        edge.onlyAnswers(play, 0, () -> play.hot(0, -1));
        edge.badTen(play, () -> play.hot(0, 0));
    }

    static void p22_nobodyIsLeft(Edge edge) {
        SchoolPlay play = castInOrder(edge.of(PART + CHILD), 0);
        edge.noTwenty(play, () -> play.hot(0, -1));
        edge.noTwenty(play, () -> play.hot(0, 0));
    }

    static void p22_tooFewAreLeft(Edge edge) {
        SchoolPlay play = castInOrder(edge.of(PART + PART + CHILD + CHILD + "scene 1 0;scene 1 1;"), 0, 1);
        edge.is("one plays both", play.hot(0, -1), 1);
        play.put(0, 1);
        edge.noTwenty(play, () -> play.hot(0, -1));
        edge.noTwenty(play, () -> play.hot(1, 1));
    }

    static void p22_eachDoesNotCount(Edge edge) {
        SchoolPlay play = castInOrder(edge.of(PART + CHILD.repeat(3)), 0);
        play.put(1, 1);
        edge.is("how many", play.hot(0, -1), 1);
        edge.is("who", play.hot(0, 0), 1);
    }

    static void p22_whoHasNoneIsHot(Edge edge) {
        SchoolPlay play = castInOrder(edge.of("part 0 0 0;child 1 0 9 0 0;child 1 0 0 0 0;child 1 0 0 0 0;"), 0);
        edge.onlyAnswers(play, 0, () -> play.hot(2, -1));
        edge.is("no change is ahead of FIT", play.hot(2, 0), 0);
    }

    static void p22_fitIsAheadOfTheFirstRow(Edge edge) {
        SchoolPlay play = castInOrder(edge.of("part 0 0 0;child 1 0 9 0 0;child 1 0 0 0 0;child 1 0 0 0 0;"), 2);
        edge.is("how many", play.hot(2, -1), 1);
        edge.is("who fits", play.hot(2, 0), 1);
    }

    static void p22_ofLikeOnesTheFirstRow(Edge edge) {
        SchoolPlay play = castInOrder(edge.of(PART + PART + CHILD.repeat(3) + "scene 1 0 1;"), 0, 0);
        edge.is("a CAST that clashes changes", play.hot(2, -1), 1);
        edge.is("PART 0", play.hot(2, 0), 0);
        edge.is("PART 1", play.hot(2, 1), 1);
    }

    static void p22_allPartsChange(Edge edge) {
        SchoolPlay play = castInOrder(edge.of(PART.repeat(6) + CHILD + CHILD), 0, 0, 0, 0, 0, 0);
        edge.is("six", play.hot(0, -1), 6);
        edge.is("the last", play.hot(0, 5), 1);
        edge.is("none", play.hot(1, -1), 0);
    }

    static void p22_sixPartsAndSixChildren(Edge edge) {
        SchoolPlay play = castInOrder(edge.of(PART.repeat(6) + CHILD.repeat(6)), 0, 1, 2, 3, 4, 5);
        edge.is("one", play.hot(5, -1), 1);
        edge.is("the first row", play.hot(5, 5), 0);
        edge.is("who stays", play.hot(5, 4), 4);
    }

    static void p22_aPartThatNobodyHas(Edge edge) {
        SchoolPlay play = edge.of(PART + CHILD + CHILD);
        edge.is("how many", play.hot(0, -1), 1);
        edge.is("who", play.hot(0, 0), 1);
    }

    static void p22_muchFitIsNotAheadOfOneChange(Edge edge) {
        String wanted = "part 1 0 9;".repeat(3);
        SchoolPlay play = castInOrder(edge.of(wanted + ill(0) + "child 1 0 9 0 0;" + ill(0) + "wish 1 0 1 2;"), 0, 0, 0);
        edge.is("how many", play.hot(2, -1), 0);
        edge.is("who", play.hot(2, 0), 0);
    }

    static void p22_noSuchChild(Edge edge) {
        SchoolPlay play = edge.of(PART.repeat(3) + CHILD + CHILD);
        edge.badTen(play, () -> play.hot(-1, -1));
        edge.badTen(play, () -> play.hot(2, -1));
        edge.badTen(play, () -> play.hot(Edge.TOP, 0));
        edge.badTen(play, () -> play.hot(Edge.LOW, 0));
        SchoolPlay none = new SchoolPlay();
        edge.badTen(none, () -> none.hot(0, -1));
    }

    static void p22_noSuchPart(Edge edge) {
        SchoolPlay play = edge.of(PART + CHILD + CHILD);
        edge.badTen(play, () -> play.hot(0, 1));
        edge.badTen(play, () -> play.hot(0, -2));
        edge.badTen(play, () -> play.hot(0, Edge.TOP));
        edge.badTen(play, () -> play.hot(0, Edge.LOW));
    }

    static void p22_badIsAheadOfNo(Edge edge) {
        SchoolPlay play = edge.of(PART + CHILD);
        edge.badTen(play, () -> play.hot(0, 1));
        edge.badTen(play, () -> play.hot(1, -1));
    }

    private static void lots(Edge edge, SchoolPlay play, int rule, int... due) {
        for (int c = 0; c < due.length; c++) {
            int child = c;
            edge.onlyAnswers(play, due[c], () -> play.lots(rule, child));
        }
    }

    static void p23_noWishes(Edge edge) {
        SchoolPlay play = edge.of(PART + CHILD + CHILD);
        lots(edge, play, 0, -1, -1);
        lots(edge, play, 1, -1, -1);
        lots(edge, edge.of(CHILD), 0, -1);
    }

    static void p23_onePartAtMost(Edge edge) {
        SchoolPlay play = edge.of(PART.repeat(3) + CHILD + CHILD + "wish 0 2 1 0;wish 1 1;");
        lots(edge, play, 0, 2, 1);
        lots(edge, play, 1, 2, 1);
    }

    static void p23_onePartForSix(Edge edge) {
        String wishes = "wish 0 0;wish 1 0;wish 2 0;wish 3 0;wish 4 0;wish 5 0;";
        SchoolPlay play = edge.of(PART + CHILD.repeat(6) + wishes);
        lots(edge, play, 0, 0, -1, -1, -1, -1, -1);
        lots(edge, play, 1, 0, -1, -1, -1, -1, -1);
    }

    static void p23_theThirdWish(Edge edge) {
        SchoolPlay play = edge.of(PART.repeat(3) + CHILD.repeat(4) + "wish 0 0;wish 1 1;wish 2 0 1 2;wish 3 1 0 2;");
        lots(edge, play, 0, 0, 1, 2, -1);
        lots(edge, play, 1, 0, 1, 2, -1);
    }

    static void p23_firstWishesOfAll(Edge edge) {
        SchoolPlay play = edge.of(PART.repeat(2) + CHILD.repeat(3) + "wish 0 0;wish 1 0 1;wish 2 1;");
        lots(edge, play, 0, 0, 1, -1);
        lots(edge, play, 1, 0, -1, 1);
    }

    static void p23_secondWishesAheadOfThirdOnes(Edge edge) {
        SchoolPlay play = edge.of(PART.repeat(3) + CHILD.repeat(4) + "wish 0 0;wish 1 1;wish 2 0 1 2;wish 3 0 2;");
        lots(edge, play, 0, 0, 1, 2, -1);
        lots(edge, play, 1, 0, 1, -1, 2);
    }

    static void p23_theLastChildGetsTheLastPart(Edge edge) {
        SchoolPlay play = edge.of(PART.repeat(6) + CHILD.repeat(6) + "wish 5 5;");
        lots(edge, play, 0, -1, -1, -1, -1, -1, 5);
        lots(edge, play, 1, -1, -1, -1, -1, -1, 5);
    }

    static void p23_castDoesNotCount(Edge edge) {
        SchoolPlay play = castInOrder(edge.of(PART + CHILD + CHILD + "wish 0 0;"), 1);
        lots(edge, play, 0, 0, -1);
    }

    static void p23_noSuchRule(Edge edge) {
        SchoolPlay play = edge.of(PART + CHILD + "wish 0 0;");
        edge.badTen(play, () -> play.lots(-1, 0));
        edge.badTen(play, () -> play.lots(2, 0));
        edge.badTen(play, () -> play.lots(Edge.TOP, 0));
        edge.badTen(play, () -> play.lots(Edge.LOW, 0));
    }

    static void p23_noSuchChild(Edge edge) {
        SchoolPlay play = edge.of(PART + CHILD + "wish 0 0;");
        edge.badTen(play, () -> play.lots(0, -1));
        edge.badTen(play, () -> play.lots(1, 1));
        edge.badTen(play, () -> play.lots(0, Edge.TOP));
        edge.badTen(play, () -> play.lots(1, Edge.LOW));
        SchoolPlay none = new SchoolPlay();
        edge.badTen(none, () -> none.lots(0, 0));
    }

    private static void gains(Edge edge, String text, int byRuleOne) {
        SchoolPlay play = edge.of(text);
        edge.onlyAnswers(play, -1, () -> play.gains(0));
        edge.onlyAnswers(play, byRuleOne, () -> play.gains(1));
    }

    static void p24_noneAtAll(Edge edge) {
        gains(edge, "", -1);
        gains(edge, PART, -1);
        gains(edge, CHILD, -1);
        gains(edge, PART + CHILD, -1);
    }

    static void p24_eachHasItsFirstWish(Edge edge) {
        gains(edge, PART.repeat(6) + CHILD.repeat(3) + "wish 0 5 1 2;wish 1 4 1 2;wish 2 3 1 2;", -1);
    }

    static void p24_nothingIsBehindAll(Edge edge) {
        gains(edge, PART.repeat(2) + CHILD.repeat(3) + "wish 0 0;wish 1 0 1;wish 2 1;", 1);
    }

    static void p24_byTheFirstPartOfAll(Edge edge) {
        gains(edge, PART.repeat(2) + CHILD.repeat(3) + "wish 0 1;wish 1 1 0;wish 2 0;", 1);
    }

    static void p24_aSecondWishIsAheadOfAThird(Edge edge) {
        gains(edge, PART.repeat(3) + CHILD.repeat(3) + "wish 0 0;wish 1 0 1 2;wish 2 1;", 1);
    }

    static void p24_whatIsNotWishedIsNoGain(Edge edge) {
        gains(edge, PART.repeat(2) + CHILD.repeat(2) + "wish 0 0;wish 1 0;", -1);
        gains(edge, PART.repeat(2) + CHILD.repeat(2) + "wish 0 0;", -1);
    }

    static void p24_asGoodIsNoGain(Edge edge) {
        gains(edge, PART.repeat(2) + CHILD.repeat(2) + "wish 0 0;wish 1 0 1;", -1);
    }

    static void p24_theLeastOfTwo(Edge edge) {
        gains(edge, PART.repeat(2) + CHILD.repeat(4) + "wish 0 0;wish 1 0 1;wish 2 0 1;wish 3 1;", 1);
    }

    static void p24_theLastChild(Edge edge) {
        gains(edge, PART.repeat(2) + CHILD.repeat(6) + "wish 0 0;wish 4 0 1;wish 5 0 1;", 5);
    }

    static void p24_noSuchRule(Edge edge) {
        SchoolPlay play = edge.of(PART + CHILD + "wish 0 0;");
        edge.badTen(play, () -> play.gains(-1));
        edge.badTen(play, () -> play.gains(2));
        edge.badTen(play, () -> play.gains(Edge.TOP));
        edge.badTen(play, () -> play.gains(Edge.LOW));
        SchoolPlay none = new SchoolPlay();
        edge.badTen(none, () -> none.gains(2));
    }
}
