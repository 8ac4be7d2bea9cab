/** Boundary cases of promise 4: what a TEXT may tell, and where its FAULT is. */
final class ReadEdges {
    private static final String PART = "part 0 0 0;", CHILD = "child 1 0 0 0 0;";

    private ReadEdges() {
    }

    static void p04_anEmptyTextHasNoFault(Edge edge) {
        edge.reads("", 0);
    }

    static void p04_blanksAlone(Edge edge) {
        edge.reads(" ", 0);
        edge.reads(" ".repeat(240), 0);
    }

    static void p04_anEmptyTextTakesThePlace(Edge edge) {
        SchoolPlay play = edge.of(PART + CHILD + "scene 1 0;wish 0 0;");
        play.clear();
        edge.is("items", play.read(), 0);
        edge.is("digest", play.digest(), new SchoolPlay().digest());
    }

    static void p04_classIsSixAtMost(Edge edge) {
        edge.reads("part 6 0 0;", 1);
        edge.fault("part ^7 0 0;");
        edge.fault("part ^10 0 0;");
        edge.fault("part ^60 0 0;");
    }

    static void p04_linesAreSixtyAtMost(Edge edge) {
        edge.reads("part 0 60 0;", 1);
        edge.fault("part 0 ^61 0;");
        edge.fault("part 0 ^99 0;");
    }

    static void p04_needIsNineAtMost(Edge edge) {
        edge.reads("part 0 0 9;", 1);
        edge.fault("part 0 0 ^10;");
    }

    static void p04_allOfAPartNothing(Edge edge) {
        edge.reads("part 0 0 0;", 1);
        edge.reads("part 00 00 00;", 1);
    }

    static void p04_learnIsOneToNine(Edge edge) {
        edge.reads("child 1 0 0 0 0;child 9 0 0 0 0;", 2);
        edge.fault("child ^0 0 0 0 0;");
        edge.fault("child ^00 0 0 0 0;");
        edge.fault("child ^10 0 0 0 0;");
    }

    static void p04_forgetIsNineAtMost(Edge edge) {
        edge.reads("child 1 9 0 0 0;", 1);
        edge.fault("child 1 ^10 0 0 0;");
    }

    static void p04_voiceIsNineAtMost(Edge edge) {
        edge.reads("child 1 0 9 0 0;", 1);
        edge.fault("child 1 0 ^10 0 0;");
    }

    static void p04_dreadIsNineAtMost(Edge edge) {
        edge.reads("child 1 0 0 9 0;", 1);
        edge.fault("child 1 0 0 ^10 0;");
    }

    static void p04_illIsNineteenAtMost(Edge edge) {
        edge.reads("child 1 0 0 0 19;", 1);
        edge.fault("child 1 0 0 0 ^20;");
    }

    static void p04_minutesAreOneToTwenty(Edge edge) {
        edge.reads(PART + "scene 1 0;scene 20 0;", 3);
        edge.fault(PART + "scene ^0 0;");
        edge.fault(PART + "scene ^21 0;");
    }

    static void p04_aSeventhPartIsTooMany(Edge edge) {
        edge.reads(PART.repeat(6), 6);
        edge.fault(PART.repeat(6) + " ^part 0 0 0;");
        edge.fault(PART.repeat(6) + "^part");
    }

    static void p04_aSeventhChildIsTooMany(Edge edge) {
        edge.reads(CHILD.repeat(6), 6);
        edge.fault(CHILD.repeat(6) + " ^child 1 0 0 0 0;");
        edge.fault(CHILD.repeat(6) + "^child !");
    }

    static void p04_anEighthSceneIsTooMany(Edge edge) {
        edge.reads(PART + "scene 1 0;".repeat(7), 8);
        edge.fault(PART + "scene 1 0;".repeat(7) + " ^scene 1 0;");
        edge.fault(PART + "scene 1 0;".repeat(7) + "^scene 99");
    }

    static void p04_thePlayThatIsFull(Edge edge) {
        SchoolPlay play = edge.of(PART.repeat(6) + CHILD.repeat(6) + "scene 1 5;".repeat(7));
        edge.is("parts", play.count(0), 6);
        edge.is("children", play.count(1), 6);
        edge.is("scenes", play.count(2), 7);
        edge.is("the last part", play.known(5), 0);
        edge.is("the last child", play.sat(5), 0);
        edge.is("the last scene", play.slips(6), 0);
    }

    static void p04_aSceneHasOnePartAtLeast(Edge edge) {
        edge.fault(PART + "scene 1^;");
        edge.fault(PART + "scene 1 ^;");
    }

    static void p04_aSceneHasAllPartsAtMost(Edge edge) {
        edge.reads(PART.repeat(6) + "scene 1 0 1 2 3 4 5;", 7);
        edge.fault(PART.repeat(6) + "scene 1 0 1 2 3 4 5 ^6;");
        edge.fault(PART.repeat(6) + "scene 1 0 1 2 3 4 5 ^5;");
    }

    static void p04_aScenesPartsAreOfThoseAhead(Edge edge) {
        edge.fault("scene 1 ^0;");
        edge.fault(PART + "scene 1 ^1;");
        edge.fault(PART + "scene 1 0 ^1;" + PART);
        edge.reads(PART + PART + "scene 1 0 1;", 3);
    }

    static void p04_aScenesPartsGoUp(Edge edge) {
        edge.reads(PART.repeat(3) + "scene 1 0 2;", 4);
        edge.fault(PART.repeat(3) + "scene 1 1 ^0;");
        edge.fault(PART.repeat(3) + "scene 1 0 2 ^1;");
    }

    static void p04_aScenesPartToldTwice(Edge edge) {
        edge.fault(PART.repeat(3) + "scene 1 0 ^0;");
        edge.fault(PART.repeat(3) + "scene 1 0 1 ^1 2;");
    }

    static void p04_aWishHasOnePartAtLeast(Edge edge) {
        edge.fault(PART + CHILD + "wish 0^;");
        edge.reads(PART + CHILD + "wish 0 0;", 3);
    }

    static void p04_aFourthWishIsTooMany(Edge edge) {
        edge.reads(PART.repeat(4) + CHILD + "wish 0 3 2 1;", 6);
        edge.fault(PART.repeat(4) + CHILD + "wish 0 3 2 1 ^0;");
        edge.fault(PART.repeat(4) + CHILD + "wish 0 3 2 1 ^3;");
        edge.fault(PART.repeat(4) + CHILD + "wish 0 3 2 1 ^99;");
    }

    static void p04_aWishToldTwice(Edge edge) {
        edge.fault(PART.repeat(3) + CHILD + "wish 0 1 ^1;");
        edge.fault(PART.repeat(3) + CHILD + "wish 0 1 2 ^1;");
        edge.fault(PART.repeat(3) + CHILD + "wish 0 1 2 ^2;");
    }

    static void p04_aWishOfAnEarlierRowIsNotToldTwice(Edge edge) {
        edge.reads(PART.repeat(3) + CHILD + "wish 0 1 2;wish 0 1;", 6);
        edge.reads(PART.repeat(3) + CHILD + CHILD + "wish 0 1;wish 1 1;", 7);
    }

    static void p04_theLastWishesOfAChildCount(Edge edge) {
        SchoolPlay play = edge.of("part 0 0 0;part 0 0 0;part 0 0 0;child 1 0 0 0 0;wish 0 0 1 2;wish 0 1;");
        edge.is("the first wish", play.fit(0, 1), 16);
        edge.is("wished no more", play.fit(0, 0), 10);
        edge.is("wished no more", play.fit(0, 2), 10);
    }

    static void p04_wishesAreOfChildrenAhead(Edge edge) {
        edge.fault(PART + "wish ^0 0;");
        edge.fault(PART + CHILD + "wish ^1 0;");
        edge.fault(PART + "wish ^0 0;" + CHILD);
        edge.reads(PART + CHILD.repeat(6) + "wish 5 0;", 8);
        edge.fault(PART + CHILD.repeat(6) + "wish ^6 0;");
    }

    static void p04_wishesAreOfPartsAhead(Edge edge) {
        edge.fault(CHILD + "wish 0 ^0;");
        edge.fault(PART + CHILD + "wish 0 ^1;");
        edge.fault(PART + CHILD + "wish 0 0 ^1;" + PART);
        edge.reads(PART.repeat(6) + CHILD + "wish 0 5;", 8);
        edge.fault(PART.repeat(6) + CHILD + "wish 0 ^6;");
    }

    static void p04_aWordThatIsNone(Edge edge) {
        edge.fault("^x");
        edge.fault(" ^par 0 0 0;");
        edge.fault("^parts 0 0 0;");
        edge.fault("^partpart 0 0 0;");
        edge.fault("^xart 0 0 0;");
        edge.fault("^parta 0 0 0;");
        edge.fault("^partz 0 0 0;");
        edge.fault("^z");
        edge.fault(PART + "^childs 1 0 0 0 0;");
        edge.fault(PART + "^scen 1 0;");
        edge.fault(PART + CHILD + "^wishe 0 0;");
    }

    static void p04_aWordInTheWrongPlace(Edge edge) {
        edge.fault("part ^part 0 0 0;");
        edge.fault("part 0 0 ^x;");
        edge.fault("part 0 0 0 ^part 0 0 0;");
        edge.fault(PART + "scene 1 0 ^scene 1 0;");
        edge.fault(PART + CHILD + "wish 0 0 ^wish 0 0;");
    }

    static void p04_aNumberInTheWrongPlace(Edge edge) {
        edge.fault("^0");
        edge.fault("part 0 0 0 ^0;");
        edge.fault("child 1 0 0 0 0 ^0;");
        edge.fault(PART + "^1 part 0 0 0;");
    }

    static void p04_anEndInTheWrongPlace(Edge edge) {
        edge.fault("^;");
        edge.fault(PART + "^;");
        edge.fault("part^;");
        edge.fault("part 0^;");
        edge.fault("part 0 0^;");
        edge.fault("child^;");
        edge.fault("child 1 0 0 0^;");
        edge.fault("scene^;");
        edge.fault("wish^;");
    }

    static void p04_aThirdFiguresNumber(Edge edge) {
        edge.fault("part 0 ^100 0;");
        edge.fault("part 0 ^010 0;");
        edge.fault("part 0 ^000 0;");
        edge.fault("part ^000 0 0;");
        edge.fault("part 0 0 0 ^000;");
        edge.fault("part 0 ^00000000000000000000000 0;");
        edge.fault("part 0 ^4294967296 0;");
        edge.fault("part 0 ^18446744073709551617 0;");
    }

    static void p04_twoFiguresAreOneNumber(Edge edge) {
        SchoolPlay play = edge.of("part 06 07 08;child 09 01 02 03 04;scene 05 00;wish 00 00;");
        play.clear();
        edge.is(play.digest(), Edge.mixed(1, 1, 1, 0, 0, 6, 7, 8, -1, -1, 0,
                9, 1, 2, 3, 4, 0, -1, -1, 0, 5, 1, 0, 0, 0, 0, 1, 1));
    }

    static void p04_aByteThatBeginsNone(Edge edge) {
        String[] odd = {"\0", "\t", "\n", "\37", "!", "-", ".", "/", ":", "<", "@", "A", "Z", "_", "`", "{", "~",
            "\177", "\200", "\240", "\377"};
        for (String b : odd) {
            edge.fault("^" + b);
            edge.fault(PART + " ^" + b);
            edge.fault("part^" + b + "0 0 0;");
            edge.fault("part 0^" + b + " 0 0;");
            edge.fault("part 0 0 0^" + b + ";");
        }
    }

    static void p04_theTextEndsTooEarly(Edge edge) {
        String whole = "part 0 0 0;child 1 0 0 0 0;scene 1 0;wish 0 0;";
        for (int n = 0; n < whole.length(); n++) {
            String begun = whole.substring(0, n);
            int words = begun.lastIndexOf(';') + 1;
            String last = begun.substring(words);
            if (last.isEmpty()) {
                edge.reads(begun, (int) begun.chars().filter(c -> c == ';').count());
            } else if (last.contains(" ") || last.matches("part|child|scene|wish")) {
                edge.fault(begun + "^");
            } else {
                edge.fault(whole.substring(0, words) + "^" + last);
            }
        }
    }

    static void p04_blanksAtTheEndCountForItsLength(Edge edge) {
        edge.fault("part 0 0 0   ^");
        edge.fault("part ^");
        edge.reads(PART + "   ", 1);
    }

    static void p04_aTextOf240Bytes(Edge edge) {
        edge.reads(PART + " ".repeat(229), 1);
        edge.reads(" ".repeat(229) + PART, 1);
        edge.fault(" ".repeat(239) + "^;");
        edge.fault(" ".repeat(236) + "part^");
        edge.fault(" ".repeat(230) + "part 0 0 0^");
    }

    static void p04_aTextOfItemsAloneIsReadToItsEnd(Edge edge) {
        edge.reads("part 0 0 0;child 1 0 0 0 0;" + "wish 0 0;".repeat(23), 25);
        edge.reads("part0 0 0;child1 0 0 0 0;" + "wish0 0;".repeat(26), 28);
    }

    static void p04_theFirstOfTwoFaults(Edge edge) {
        edge.fault("part ^9 99 99;!");
        edge.fault("part 0 0 ^! 0;x");
    }

    static void p04_aFaultIsNoRefusal(Edge edge) {
        SchoolPlay play = new SchoolPlay();
        Texts.read(play, "x");
        edge.status(play, 0, 0, 0);
    }

    static void p04_aFaultBehindManyItemsLeavesAllAsItIs(Edge edge) {
        edge.fault(PART.repeat(5) + CHILD.repeat(3) + "scene 1 0 1 2 3 4;wish 0 0 1 2;^x");
    }

    static void p04_nobodyIsCastOrBehindAnyMore(Edge edge) {
        SchoolPlay play = edge.of(PART + CHILD);
        play.cast(0, 0);
        play.behind(0, 0);
        play.read();
        edge.is("CAST", play.cast(0, -1), -1);
        edge.is("BEHIND", play.behind(0, -1), -1);
    }

    static void p04_nothingIsKnownAndNobodySatAnyMore(Edge edge) {
        SchoolPlay play = edge.of("part 0 9 0;part 0 9 0;child 1 0 0 0 0;child 1 0 0 0 0;scene 1 0;scene 1 1;");
        play.cast(0, 0);
        play.cast(1, 1);
        play.rehearse(0, 5);
        play.rehearse(1, 3);
        edge.is("KNOWN", play.known(0), 5);
        edge.is("KNOWN", play.known(1), 3);
        edge.is("SAT", play.sat(0), 3);
        edge.is("SAT", play.sat(1), 5);
        play.read();
        edge.is("KNOWN", play.known(0), 0);
        edge.is("KNOWN", play.known(1), 0);
        edge.is("SAT", play.sat(0), 0);
        edge.is("SAT", play.sat(1), 0);
    }

    static void p04_wishesAheadDoNotCountAnyMore(Edge edge) {
        SchoolPlay play = edge.of(PART + CHILD + "wish 0 0;");
        edge.is("wished", play.fit(0, 0), 16);
        Texts.read(play, PART + CHILD);
        edge.is("no more", play.fit(0, 0), 10);
    }

    static void p04_scenesAheadDoNotCountAnyMore(Edge edge) {
        SchoolPlay play = edge.of(PART + PART + "scene 1 0 1;scene 1 0;");
        Texts.read(play, PART + PART + "scene 1 0;");
        edge.is("scenes", play.count(2), 1);
        edge.is("clash", play.clash(0, 1), 0);
    }

    static void p04_allElseStays(Edge edge) {
        SchoolPlay play = edge.of(PART);
        play.put(0, 3);
        play.put(1, 1);
        play.year(1);
        play.tried(10, 8, 2, 2, 2);
        play.image(0);
        play.known(9);
        play.read();
        edge.is("CHANGE", play.put(0, 3), 3);
        edge.is("EACH", play.put(1, 1), 1);
        edge.is("YEARS", play.count(3), 1);
        edge.is("THE BOOK", play.count(4), 11);
        edge.fraction("THE FRACTION", play, 16, 17);
        edge.status(play, 1, 0, 0);
        edge.is("an image", play.from(0), 1);
    }
}
