/** Boundary cases of promises 12 to 18: rehearsals, SLIPS, PLANS. */
final class RehearsalEdges {
    private static final String PART = "part 0 0 0;", CHILD = "child 1 0 0 0 0;";
    /** By LEARN 1 each minute is one more KNOWN. */
    private static final String TEN = "part 0 9 0;";

    private RehearsalEdges() {
    }

    /** One PART, one CHILD that has it, one SCENE. */
    private static SchoolPlay one(Edge edge, int lines, int learn, int forget) {
        SchoolPlay play = edge.of("part 0 " + lines + " 0;child " + learn + " " + forget + " 0 0 0;scene 1 0;");
        play.cast(0, 0);
        return play;
    }

    private static int knownAfter(SchoolPlay play, int m) {
        play.rehearse(0, m);
        return play.known(0);
    }

    static void p12_oneAndFortyMinutes(Edge edge) {
        SchoolPlay play = one(edge, 9, 1, 0);
        edge.is("1", knownAfter(play, 1), 1);
        edge.is("40", knownAfter(play, 40), 41);
    }

    static void p12_tooFewMinutes(Edge edge) {
        SchoolPlay play = one(edge, 9, 1, 0);
        edge.bad(play, () -> play.rehearse(0, 0));
        edge.bad(play, () -> play.rehearse(0, -1));
        edge.bad(play, () -> play.rehearse(0, Edge.LOW));
    }

    static void p12_tooManyMinutes(Edge edge) {
        SchoolPlay play = one(edge, 9, 1, 0);
        edge.bad(play, () -> play.rehearse(0, 41));
        edge.bad(play, () -> play.rehearse(0, Edge.TOP));
    }

    static void p12_noSuchScene(Edge edge) {
        SchoolPlay play = one(edge, 9, 1, 0);
        edge.bad(play, () -> play.rehearse(-1, 1));
        edge.bad(play, () -> play.rehearse(1, 1));
        edge.bad(play, () -> play.rehearse(Edge.TOP, 1));
        edge.bad(play, () -> play.rehearse(Edge.LOW, 1));
        SchoolPlay none = edge.of(PART + CHILD);
        edge.bad(none, () -> none.rehearse(0, 1));
        SchoolPlay full = edge.of(PART + "scene 1 0;".repeat(7));
        edge.is("the last", full.rehearse(6, 1), 0);
        edge.bad(full, () -> full.rehearse(7, 1));
    }

    static void p12_knownIsAHundredAtMost(Edge edge) {
        SchoolPlay play = one(edge, 9, 1, 0);
        knownAfter(play, 40);
        knownAfter(play, 40);
        edge.is("99", knownAfter(play, 19), 99);
        edge.is("100", knownAfter(play, 1), 100);
        edge.is("101", knownAfter(play, 1), 100);
        edge.is("3600", knownAfter(one(edge, 0, 9, 0), 40), 100);
        SchoolPlay over = one(edge, 9, 9, 0);
        edge.is("99", knownAfter(over, 11), 99);
        edge.is("108", knownAfter(over, 1), 100);
    }

    static void p12_noLines(Edge edge) {
        edge.is("10 by 1", knownAfter(one(edge, 0, 1, 0), 1), 10);
        edge.is("90 by 1", knownAfter(one(edge, 0, 9, 0), 1), 90);
    }

    static void p12_sixtyLinesAreCut(Edge edge) {
        edge.is("10 by 61", knownAfter(one(edge, 60, 1, 0), 1), 0);
        edge.is("60 by 61", knownAfter(one(edge, 60, 1, 0), 6), 0);
        edge.is("70 by 61", knownAfter(one(edge, 60, 1, 0), 7), 1);
        edge.is("3600 by 61", knownAfter(one(edge, 60, 9, 0), 40), 59);
    }

    static void p12_nobodyHasThePart(Edge edge) {
        SchoolPlay play = one(edge, 9, 1, 0);
        play.cast(0, -1);
        edge.onlyAnswers(play, 0, () -> play.rehearse(0, 40));
    }

    static void p12_nobodySits(Edge edge) {
        SchoolPlay play = edge.of(TEN + CHILD + CHILD + "scene 1 0;");
        play.cast(0, 0);
        edge.is("CHILD 1 has no PART", play.rehearse(0, 5), 0);
        edge.is("CHILD 1", play.sat(1), 0);
    }

    static void p12_allSit(Edge edge) {
        SchoolPlay play = edge.of(PART.repeat(6) + CHILD.repeat(6) + "scene 1 5;");
        for (int p = 0; p < 5; p++) {
            play.cast(p, p + 1);
        }
        edge.is("five", play.rehearse(0, 40), 5);
        edge.is("CHILD 0 has none", play.sat(0), 0);
        edge.is("CHILD 5", play.sat(5), 40);
    }

    static void p12_whoHasTwoPartsSitsOnce(Edge edge) {
        SchoolPlay play = edge.of(TEN.repeat(3) + CHILD + "scene 1 2;");
        play.cast(0, 0);
        play.cast(1, 0);
        edge.is("one sits", play.rehearse(0, 3), 1);
        edge.is("3 minutes", play.sat(0), 3);
    }

    static void p12_whoHasOneInItDoesNotSit(Edge edge) {
        SchoolPlay play = edge.of(TEN.repeat(2) + CHILD + "scene 1 0;");
        play.cast(0, 0);
        play.cast(1, 0);
        edge.is("none sits", play.rehearse(0, 3), 0);
        edge.is("in it", play.known(0), 3);
        edge.is("not in it", play.known(1), 0);
    }

    static void p12_whoIsOnlyBehindNeitherLearnsNorSits(Edge edge) {
        SchoolPlay play = edge.of(TEN + CHILD + "scene 1 0;");
        play.behind(0, 0);
        edge.onlyAnswers(play, 0, () -> play.rehearse(0, 40));
    }

    static void p13_noParts(Edge edge) {
        SchoolPlay play = new SchoolPlay();
        edge.onlyAnswers(play, 1, play::night);
    }

    static void p13_allIsKnownAndMuchForgotten(Edge edge) {
        SchoolPlay play = one(edge, 0, 9, 9);
        knownAfter(play, 40);
        edge.is("night", play.night(), 1);
        edge.is("100 less 45", play.known(0), 55);
    }

    static void p13_whoForgetsNothing(Edge edge) {
        SchoolPlay play = one(edge, 0, 9, 0);
        knownAfter(play, 40);
        edge.onlyAnswers(play, 1, play::night);
    }

    static void p13_nothingIsKnown(Edge edge) {
        SchoolPlay play = one(edge, 9, 1, 9);
        edge.onlyAnswers(play, 1, play::night);
    }

    static void p13_whatIsLessIsCut(Edge edge) {
        int[] left = {0, 1, 2, 2, 3, 3};
        for (int known = 1; known <= 5; known++) {
            SchoolPlay play = one(edge, 9, 1, 9);
            knownAfter(play, known);
            play.night();
            edge.is("of " + known, play.known(0), left[known]);
        }
    }

    static void p13_aTwentiethOfTwenty(Edge edge) {
        SchoolPlay play = one(edge, 9, 1, 1);
        knownAfter(play, 20);
        play.night();
        edge.is("20 less 1", play.known(0), 19);
        edge.onlyAnswers(play, 1, play::night);
    }

    static void p13_whatNobodyHasIsNotForgotten(Edge edge) {
        SchoolPlay play = one(edge, 9, 1, 9);
        knownAfter(play, 40);
        play.cast(0, -1);
        play.behind(0, 0);
        edge.onlyAnswers(play, 1, play::night);
    }

    static void p13_sixParts(Edge edge) {
        SchoolPlay play = edge.of(TEN.repeat(6) + "child 1 9 0 0 0;scene 1 0 1 2 3 4 5;");
        for (int p = 0; p < 6; p++) {
            play.cast(p, 0);
        }
        play.rehearse(0, 20);
        play.night();
        for (int p = 0; p < 6; p++) {
            edge.is("20 less 9, PART " + p, play.known(p), 11);
        }
    }

    static void p13_nobodySitsByNight(Edge edge) {
        SchoolPlay play = one(edge, 9, 1, 9);
        play.night();
        edge.is(play.sat(0), 0);
    }

    static void p14_nothingAtFirst(Edge edge) {
        SchoolPlay play = edge.of(PART.repeat(6));
        edge.is("the first", play.known(0), 0);
        edge.is("the last", play.known(5), 0);
    }

    static void p14_noSuchPart(Edge edge) {
        SchoolPlay play = edge.of(PART.repeat(6));
        edge.bad(play, () -> play.known(-1));
        edge.bad(play, () -> play.known(6));
        edge.bad(play, () -> play.known(Edge.TOP));
        edge.bad(play, () -> play.known(Edge.LOW));
        SchoolPlay none = new SchoolPlay();
        edge.bad(none, () -> none.known(0));
    }

    static void p14_anotherWhoHasItKnowsAsMuch(Edge edge) {
        SchoolPlay play = edge.of(TEN + CHILD + CHILD + "scene 1 0;");
        play.cast(0, 0);
        play.rehearse(0, 9);
        play.cast(0, 1);
        edge.is("another", play.known(0), 9);
        play.cast(0, -1);
        edge.is("nobody", play.known(0), 9);
    }

    static void p15_nothingAtFirst(Edge edge) {
        SchoolPlay play = edge.of(CHILD.repeat(6));
        edge.is("the first", play.sat(0), 0);
        edge.is("the last", play.sat(5), 0);
    }

    static void p15_noSuchChild(Edge edge) {
        SchoolPlay play = edge.of(CHILD.repeat(6));
        edge.bad(play, () -> play.sat(-1));
        edge.bad(play, () -> play.sat(6));
        edge.bad(play, () -> play.sat(Edge.TOP));
        edge.bad(play, () -> play.sat(Edge.LOW));
        SchoolPlay none = new SchoolPlay();
        edge.bad(none, () -> none.sat(0));
    }

    static void p15_asLongAsAnObjectIsUsed(Edge edge) {
        SchoolPlay play = edge.of(PART + PART + CHILD + "scene 1 0;");
        play.cast(1, 0);
        for (int i = 0; i < 490; i++) {
            play.rehearse(0, 40);
        }
        edge.is(play.sat(0), 19600);
    }

    static void p16_noScenes(Edge edge) {
        SchoolPlay play = edge.of("part 0 60 0;");
        edge.is("of all", play.slips(-1), 0);
        edge.bad(play, () -> play.slips(0));
    }

    static void p16_noSuchScene(Edge edge) {
        SchoolPlay play = edge.of("part 0 60 0;scene 1 0;");
        edge.bad(play, () -> play.slips(1));
        edge.bad(play, () -> play.slips(-2));
        edge.bad(play, () -> play.slips(Edge.TOP));
        edge.bad(play, () -> play.slips(Edge.LOW));
        SchoolPlay full = edge.of("part 0 60 0;" + "scene 1 0;".repeat(7));
        edge.bad(full, () -> full.slips(7));
    }

    static void p16_noLines(Edge edge) {
        edge.is(edge.of("part 0 0 0;scene 1 0;").slips(0), 0);
    }

    static void p16_allIsKnown(Edge edge) {
        SchoolPlay play = one(edge, 60, 9, 0);
        knownAfter(play, 40);
        edge.is("59 are known", play.slips(0), 60 * 41);
        knownAfter(play, 40);
        edge.is("100 are known", play.slips(0), 0);
        edge.is("of all", play.slips(-1), 0);
    }

    static void p16_theMostSlips(Edge edge) {
        SchoolPlay play = edge.of("part 0 60 0;".repeat(6) + "scene 1 0 1 2 3 4 5;");
        edge.is("of the scene", play.slips(0), 36000);
        edge.is("of all", play.slips(-1), 36000);
    }

    static void p16_sharesAreCut(Edge edge) {
        SchoolPlay halves = edge.of("part 0 1 0;scene 1 0;scene 1 0;");
        edge.is("1 by 2", halves.slips(0), 0);
        edge.is("1 by 2, twice", halves.slips(-1), 0);
        SchoolPlay unlike = edge.of("part 0 60 0;scene 20 0;scene 1 0;");
        edge.is("1200 by 21", unlike.slips(0), 5700);
        edge.is("60 by 21", unlike.slips(1), 200);
        edge.is("of all", unlike.slips(-1), 5900);
        SchoolPlay seven = edge.of("part 0 60 0;" + "scene 20 0;".repeat(7));
        edge.is("1200 by 140", seven.slips(6), 800);
        edge.is("of all", seven.slips(-1), 5600);
    }

    static void p16_partsThatAreNotInItDoNotSlip(Edge edge) {
        SchoolPlay play = edge.of("part 0 5 0;part 0 60 0;scene 1 0;scene 1 1;");
        edge.is("of the first", play.slips(0), 500);
        edge.is("of the second", play.slips(1), 6000);
    }

    static void p16_theyAreToldOnly(Edge edge) {
        SchoolPlay play = edge.of("part 0 5 0;scene 1 0;");
        edge.onlyAnswers(play, 500, () -> play.slips(-1));
        edge.onlyAnswers(play, 500, () -> play.slips(0));
    }

    static void p17_noParts(Edge edge) {
        SchoolPlay play = edge.of(CHILD);
        edge.onlyAnswers(play, -1, play::cut);
    }

    static void p17_onePart(Edge edge) {
        SchoolPlay play = edge.of(PART);
        edge.onlyAnswers(play, 0, play::cut);
    }

    static void p17_noScenes(Edge edge) {
        edge.is(edge.of("part 0 1 0;part 0 60 0;").cut(), 0);
    }

    static void p17_ofLikeOnesTheLeast(Edge edge) {
        edge.is("all alike", edge.of("part 0 8 0;".repeat(6) + "scene 1 0 1 2 3 4 5;").cut(), 0);
        edge.is("the last two alike", edge.of("part 0 6 0;part 0 8 0;part 0 8 0;scene 1 0 1 2;").cut(), 1);
        edge.is("nothing is saved by any", edge.of(PART.repeat(3) + "scene 1 0 1 2;").cut(), 0);
    }

    static void p17_theLastOfAll(Edge edge) {
        edge.is(edge.of("part 0 8 0;".repeat(5) + "part 0 60 0;scene 1 0 1 2 3 4 5;").cut(), 5);
    }

    static void p17_halfOfAnOddNumberIsCut(Edge edge) {
        edge.is("1 of 2, 2 of 3", edge.of("part 0 2 0;part 0 3 0;scene 1 0 1;").cut(), 1);
        edge.is("0 of 0, 1 of 1", edge.of("part 0 0 0;part 0 1 0;scene 1 0 1;").cut(), 1);
        edge.is("2 of 4, 2 of 3", edge.of("part 0 4 0;part 0 3 0;scene 1 0 1;").cut(), 0);
    }

    static void p17_sharesAreCutAnew(Edge edge) {
        edge.is("3 in two scenes: 1, 1, then none; 3 in one: 3, then 1",
                edge.of("part 0 3 0;part 0 3 0;scene 1 0 1;scene 1 0;").cut(), 0);
        edge.is("3 in two scenes save 2; 5 in one 3",
                edge.of("part 0 3 0;part 0 5 0;scene 1 0 1;scene 1 0;").cut(), 1);
    }

    static void p17_whatIsKnownStaysAsItIs(Edge edge) {
        SchoolPlay play = edge.of("part 0 60 0;part 0 2 0;child 9 0 0 0 0;scene 1 0 1;");
        play.cast(0, 0);
        play.rehearse(0, 40);
        edge.is("30 times 41, 1 times 100", play.cut(), 0);
        play.rehearse(0, 40);
        edge.is("none, 1 times 100", play.cut(), 1);
    }

    static void p18_oneAndFourDays(Edge edge) {
        SchoolPlay play = one(edge, 9, 1, 0);
        edge.is("1", play.plan(1, 5, -1), 5);
        edge.is("4", play.plan(4, 5, -1), 20);
        edge.is("1 again", play.plan(1, 5, -1), 5);
        edge.is("the last day of 1", play.plan(1, 5, 0), 0);
        edge.is("the last day of 4", play.plan(4, 5, 3), 0);
    }

    static void p18_tooFewOrTooManyDays(Edge edge) {
        SchoolPlay play = one(edge, 9, 1, 0);
        edge.bad(play, () -> play.plan(0, 5, -1));
        edge.bad(play, () -> play.plan(-1, 5, -1));
        edge.bad(play, () -> play.plan(5, 5, -1));
        edge.bad(play, () -> play.plan(Edge.TOP, 5, -1));
        edge.bad(play, () -> play.plan(Edge.LOW, 5, -1));
    }

    static void p18_oneAndFortyMinutes(Edge edge) {
        SchoolPlay play = one(edge, 9, 1, 0);
        edge.is("1", play.plan(1, 1, -1), 1);
        edge.is("40", play.plan(1, 40, -1), 40);
    }

    static void p18_tooFewOrTooManyMinutes(Edge edge) {
        SchoolPlay play = one(edge, 9, 1, 0);
        edge.bad(play, () -> play.plan(1, 0, -1));
        edge.bad(play, () -> play.plan(1, -1, -1));
        edge.bad(play, () -> play.plan(1, 41, -1));
        edge.bad(play, () -> play.plan(1, Edge.TOP, -1));
        edge.bad(play, () -> play.plan(1, Edge.LOW, -1));
    }

    static void p18_noSuchDay(Edge edge) {
        SchoolPlay play = one(edge, 9, 1, 0);
        for (int d = 1; d <= 4; d++) {
            int days = d;
            edge.bad(play, () -> play.plan(days, 5, days));
            edge.bad(play, () -> play.plan(days, 5, -2));
            edge.bad(play, () -> play.plan(days, 5, Edge.TOP));
            edge.bad(play, () -> play.plan(days, 5, Edge.LOW));
        }
    }

    static void p18_noScenes(Edge edge) {
        SchoolPlay play = edge.of(TEN + CHILD);
        edge.no(play, () -> play.plan(1, 1, -1));
        edge.no(play, () -> play.plan(4, 40, 3));
        SchoolPlay none = new SchoolPlay();
        edge.no(none, () -> none.plan(1, 1, 0));
    }

    static void p18_badIsAheadOfNo(Edge edge) {
        SchoolPlay play = new SchoolPlay();
        edge.bad(play, () -> play.plan(0, 1, -1));
        edge.bad(play, () -> play.plan(1, 0, -1));
        edge.bad(play, () -> play.plan(1, 1, 1));
    }

    static void p18_noPartsWithLines(Edge edge) {
        SchoolPlay play = edge.of(PART + CHILD + "scene 1 0;scene 1 0;");
        edge.is("nobody has it", play.plan(1, 1, -1), 100);
        play.cast(0, 0);
        edge.is("somebody has it", play.plan(1, 1, -1), 100);
        edge.is("the first row", play.plan(4, 1, 3), 0);
    }

    static void p18_aPartWithOneLineCounts(Edge edge) {
        SchoolPlay play = edge.of("part 0 1 0;part 0 0 0;child 1 0 0 0 0;scene 1 1;scene 1 0;");
        edge.is("nobody has it", play.plan(4, 40, -1), 0);
        play.cast(0, 0);
        edge.is("10 by 2", play.plan(1, 1, -1), 5);
        edge.is("in its scene", play.plan(1, 1, 0), 1);
    }

    static void p18_aHundredAtMostAheadOfEachNight(Edge edge) {
        SchoolPlay play = one(edge, 0, 9, 9);
        edge.is("no lines", play.plan(4, 40, -1), 100);
        SchoolPlay lines = one(edge, 1, 9, 9);
        edge.is("100 less 45", lines.plan(1, 40, -1), 55);
        edge.is("100 less 45 again", lines.plan(4, 40, -1), 55);
    }

    static void p18_ofLikeRowsTheFirst(Edge edge) {
        SchoolPlay play = edge.of(TEN + CHILD + "scene 1 0;".repeat(7));
        play.cast(0, 0);
        for (int day = 0; day < 4; day++) {
            edge.is("day " + day, play.plan(4, 1, day), 0);
        }
    }

    static void p18_aSceneForEachDay(Edge edge) {
        SchoolPlay play = edge.of(TEN.repeat(4) + CHILD + "scene 1 0;scene 1 1;scene 1 2;scene 1 3;" + "scene 1 0;".repeat(3));
        for (int p = 0; p < 4; p++) {
            play.cast(p, 0);
        }
        edge.is("three days are too few", play.plan(3, 1, -1), 0);
        edge.is("four days", play.plan(4, 1, -1), 1);
        for (int day = 0; day < 4; day++) {
            edge.is("day " + day, play.plan(4, 1, day), day);
        }
    }

    static void p18_theLastSceneOnTheLastDay(Edge edge) {
        SchoolPlay play = edge.of("part 0 9 0;part 0 9 0;child 1 9 0 0 0;child 1 0 0 0 0;" + "scene 1 1;".repeat(6) + "scene 1 0;");
        play.cast(0, 0);
        play.cast(1, 1);
        edge.is("what is forgotten comes last: 40 less 18", play.plan(2, 40, -1), 22);
        edge.is("first", play.plan(2, 40, 0), 0);
        edge.is("last", play.plan(2, 40, 1), 6);
    }

    static void p18_thenTheLeastSitting(Edge edge) {
        SchoolPlay play = edge.of("part 0 9 0;part 0 0 0;child 1 0 0 0 0;child 1 0 0 0 0;scene 1 0;scene 1 0 1;");
        play.cast(0, 0);
        edge.is("CHILD 1 has no PART: nobody sits", play.plan(1, 1, 0), 0);
        play.cast(1, 1);
        edge.is("CHILD 1 would sit", play.plan(1, 1, 0), 1);
    }

    static void p18_sixPartsAndSevenScenes(Edge edge) {
        SchoolPlay play = edge.of(TEN.repeat(6) + CHILD + "scene 1 0;".repeat(6) + "scene 1 0 1 2 3 4 5;");
        for (int p = 0; p < 6; p++) {
            play.cast(p, 0);
        }
        edge.is("least KNOWN", play.plan(4, 1, -1), 4);
        edge.is("day 0", play.plan(4, 1, 0), 6);
        edge.is("day 3", play.plan(4, 1, 3), 6);
    }

    static void p18_nothingIsKnownByAnyRow(Edge edge) {
        SchoolPlay play = edge.of(TEN + TEN + CHILD + "scene 1 0;scene 1 1;");
        play.cast(0, 0);
        play.cast(1, 0);
        play.rehearse(0, 10);
        edge.is("the second scene", play.plan(1, 5, 0), 1);
        play.cast(1, -1);
        edge.is("nothing, by any", play.plan(1, 5, -1), 0);
        edge.is("nobody sits by the first", play.plan(1, 5, 0), 0);
    }

    static void p18_nothingChanges(Edge edge) {
        SchoolPlay play = edge.of(TEN + TEN + "child 1 9 0 0 0;child 1 9 0 0 0;scene 1 0;scene 1 1;");
        play.cast(0, 0);
        play.cast(1, 1);
        play.rehearse(0, 40);
        edge.onlyAnswers(play, 1, () -> play.plan(1, 40, 0));
        edge.onlyAnswers(play, 22, () -> play.plan(1, 40, -1));
    }
}
