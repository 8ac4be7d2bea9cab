/** For each promise of the document runs with answers reckoned by hand: ordinary ones, edges, wrong inputs. */
public final class PromiseTest {
    private static final int TOP = Integer.MAX_VALUE, LOW = Integer.MIN_VALUE;
    private static final Due DUE = new Due();

    private PromiseTest() {
    }

    private static SchoolPlay of(String text) {
        SchoolPlay play = new SchoolPlay();
        Texts.type(play, text);
        DUE.holds("the book is read: " + text, play.read() >= 0);
        return play;
    }

    private static void fraction(String what, SchoolPlay play, long above, long below) {
        DUE.is(what + ": sign", play.sign(0), above > 0 ? 1 : 0);
        DUE.is(what + ": above", Edge.sideOf(play, 0), above);
        DUE.is(what + ": below", Edge.sideOf(play, 1), below);
    }

    private static void refusals(String what, SchoolPlay play, int bad, int no, int full) {
        DUE.is(what + ": BAD", play.status(0), bad);
        DUE.is(what + ": NO", play.status(1), no);
        DUE.is(what + ": FULL", play.status(2), full);
    }

    private static void newObject() {
        SchoolPlay play = new SchoolPlay();
        DUE.is("1 digest of a new one", play.digest(), Edge.mixed(0, 0, 0, 0, 0, 0, 0, 0, 0, 1, 1));
        for (int what = 0; what < 5; what++) {
            DUE.is("1 count " + what, play.count(what), 0);
        }
        fraction("1 fraction", play, 0, 1);
        DUE.is("1 CHANGE", play.put(0, 0), 0);
        DUE.is("1 EACH", play.put(1, 0), 0);
        DUE.is("1 no part", play.known(0), -2);
        DUE.is("1 no child", play.sat(0), -2);
        DUE.is("1 no image", play.from(0), -3);
        refusals("1", play, 2, 1, 0);
    }

    private static void type() {
        SchoolPlay play = new SchoolPlay();
        DUE.is("2 n 0", play.type(97, 0), -2);
        DUE.is("2 n 9", play.type(97, 9), -2);
        DUE.is("2 n below 0", play.type(97, LOW), -2);
        DUE.is("2 two bytes", play.type(0x1122334455667F80L, 2), 2);
        DUE.is("2 the highest first", play.digest(), Edge.mixed(0, 0, 0, 0, 2, 0, 0, 0x7F, 0x80, 0, 0, 1, 1));
        DUE.is("2 eight bytes", play.type(-2L, 8), 10);
        DUE.is("2 bytes up to 255", play.digest(), Edge.mixed(0, 0, 0, 0, 10, 0, 0, 0x7F, 0x80,
                255, 255, 255, 255, 255, 255, 255, 254, 0, 0, 1, 1));
        for (int i = 1; i <= 28; i++) {
            DUE.is("2 more", play.type(32, 8), 10 + 8 * i);
        }
        long before = play.digest();
        DUE.is("2 too many by two", play.type(32, 8), -4);
        DUE.is("2 a refused one changes nothing", play.digest(), before);
        DUE.is("2 BAD ahead of FULL", play.type(32, 300), -2);
        DUE.is("2 up to 240", play.type(32, 6), 240);
        DUE.is("2 one too many", play.type(32, 1), -4);
        refusals("2", play, 4, 0, 2);
    }

    private static void clear() {
        SchoolPlay play = of("part 1 2 3;");
        DUE.is("3 how many it had", play.clear(), 11);
        DUE.is("3 empty", play.clear(), 0);
        DUE.is("3 no bytes", play.count(4), 0);
        DUE.is("3 what was read stays", play.count(0), 1);
        DUE.is("3 it begins anew", play.type(59, 1), 1);
    }

    private static void reads(String text, int want) {
        DUE.is("4 read of '" + text + "'", Texts.read(new SchoolPlay(), text), want);
    }

    private static void readsWell() {
        reads("", 0);
        reads("   ", 0);
        reads("part 0 0 0;", 1);
        reads("part 6 60 9;", 1);
        reads("  part6 60 9 ;part 06 00 09;", 2);
        reads("child 1 0 0 0 0;child 9 9 9 9 19;", 2);
        reads("part 0 0 0;scene 1 0;scene 20 0;", 3);
        reads("part 0 0 0;part 0 0 0;part 0 0 0;scene 5 0 1 2;scene 5 0 2;", 5);
        reads("part 0 0 0;part 0 0 0;part 0 0 0;child 1 0 0 0 0;wish 0 2 0 1;wish 0 1;", 6);
        reads("part 0 0 0;".repeat(6) + "child 1 0 0 0 0;".repeat(6) + "scene 1 0;".repeat(7), 19);
    }

    private static void readsFaults() {
        reads(";", -10);
        reads("5", -10);
        reads("  parts 1 2 3;", -12);
        reads("par", -10);
        reads("mart 1 2 3;", -10);
        reads("partz 1 2 3;", -10);
        reads("parta 1 2 3;", -10);
        reads("part`1 2 3;", -14);
        reads("part{1 2 3;", -14);
        reads("part 1 2/3;", -18);
        reads("part 1 2:3;", -18);
        reads("Part 1 2 3;", -10);
        reads("part\t1 2 3;", -14);
        reads("part 7 0 0;", -15);
        reads("part 0 61 0;", -17);
        reads("part 0 0 10;", -19);
        reads("part 0 0;", -18);
        reads("part 0 0 0 0;", -21);
        reads("part 0 0 0", -20);
        reads("part 0 0 0  ", -22);
        reads("part", -14);
        reads("part 0 0 part", -19);
        reads("part 0 123 0;", -17);
        reads("part 0 012 0;", -17);
        reads("part 0 99999999999 0;", -17);
        reads("part 0 0 0;;", -21);
        reads("part 0 0 0!", -20);
        reads("part 0 -1 0;", -17);
        reads("child 0 0 0 0 0;", -16);
        reads("child 10 0 0 0 0;", -16);
        reads("child 1 10 0 0 0;", -18);
        reads("child 1 0 10 0 0;", -20);
        reads("child 1 0 0 10 0;", -22);
        reads("child 1 0 0 0 20;", -24);
        reads("child 1 0 0 0;", -23);
        reads("scene 1 0;", -18);
        reads("part 0 0 0;scene 0 0;", -27);
        reads("part 0 0 0;scene 21 0;", -27);
        reads("part 0 0 0;scene 1;", -28);
        reads("part 0 0 0;scene 1 1;", -29);
        reads("part 0 0 0;part 0 0 0;scene 1 1 0;", -42);
        reads("part 0 0 0;part 0 0 0;scene 1 1 1;", -42);
        reads("scene 1 0;part 0 0 0;", -18);
        reads("wish 0 0;", -15);
        reads("child 1 0 0 0 0;wish 0 0;", -33);
        reads("child 1 0 0 0 0;wish 1;", -31);
        reads("child 1 0 0 0 0;wish 0;", -32);
        String four = "part 0 0 0;part 0 0 0;part 0 0 0;part 0 0 0;child 1 0 0 0 0;";
        reads(four + "wish 0 0 1 2;", 6);
        reads(four + "wish 0 0 1 2 3;", -83);
        reads(four + "wish 0 0 0;", -79);
        reads(four + "wish 0 1 0 1;", -81);
        reads(four + "wish 0 4;", -77);
        reads("part 0 0 0;".repeat(6) + "part 0 0 0;", -76);
        reads("part 0 0 0;".repeat(6) + "part !", -76);
        reads("child 1 0 0 0 0;".repeat(6) + " child 1 0 0 0 0;", -107);
        reads("part 0 0 0;" + "scene 1 0;".repeat(7) + "scene 1 0;", -91);
        String whole = "part 0 0 0;" + " ".repeat(229);
        reads(whole, 1);
        reads(" ".repeat(239) + "!", -249);
        reads(" ".repeat(236) + "part", -250);
    }

    private static void readTakesThePlace() {
        SchoolPlay play = of("part 0 9 0;part 0 9 0;child 9 0 0 0 0;scene 1 0;wish 0 0;");
        play.cast(0, 0);
        play.behind(1, 0);
        play.rehearse(0, 40);
        play.put(0, 2);
        play.put(1, 1);
        play.year(1);
        play.tried(10, 8, 2, 2, 2);
        Texts.type(play, "!");
        long before = play.digest();
        DUE.is("4 a fault", play.read(), -10 - 57);
        DUE.is("4 with a fault all stays", play.digest(), before);
        refusals("4 a fault is no refusal", play, 0, 0, 0);
        Texts.read(play, "part 1 2 3;child 1 2 3 4 5;");
        DUE.is("4 a new play", play.digest(), Edge.mixed(1, 1, 0, 1, 27, 1, 2, 3, -1, -1, 0, 1, 2, 3, 4, 5, -1, -1, -1, 0, 2, 1,
                'p', 'a', 'r', 't', ' ', '1', ' ', '2', ' ', '3', ';', 'c', 'h', 'i', 'l', 'd', ' ',
                '1', ' ', '2', ' ', '3', ' ', '4', ' ', '5', ';', 1, 1, 1, 1, 16, 17));
        SchoolPlay again = of("part 0 9 0;child 9 0 0 0 0;scene 1 0;");
        again.cast(0, 0);
        again.behind(0, 0);
        again.rehearse(0, 1);
        again.read();
        DUE.is("4 nobody is cast", again.cast(0, -1), -1);
        DUE.is("4 nobody is behind", again.behind(0, -1), -1);
        DUE.is("4 nothing is known", again.known(0), 0);
        again.clear();
        DUE.is("4 an empty book", again.read(), 0);
        DUE.is("4 takes the place, too", again.count(0), 0);
    }

    private static void put() {
        SchoolPlay play = new SchoolPlay();
        DUE.is("5 CHANGE 3", play.put(0, 3), 0);
        DUE.is("5 CHANGE 4", play.put(0, 4), -2);
        DUE.is("5 CHANGE -1", play.put(0, -1), -2);
        DUE.is("5 CHANGE was 3", play.put(0, 1), 3);
        DUE.is("5 EACH 1", play.put(1, 1), 0);
        DUE.is("5 EACH 2", play.put(1, 2), -2);
        DUE.is("5 EACH was 1", play.put(1, 0), 1);
        DUE.is("5 another number", play.put(2, 0), -2);
        DUE.is("5 another number", play.put(-1, 0), -2);
        refusals("5", play, 5, 0, 0);
        DUE.is("5 CHANGE, EACH", play.digest(), Edge.mixed(0, 0, 0, 0, 0, 1, 0, 0, 0, 1, 1));
    }

    private static void fit() {
        SchoolPlay play = of("part 0 0 9;part 1 0 9;part 2 0 9;part 3 0 9;part 4 0 9;part 5 0 9;"
                + "child 3 0 2 9 0;child 9 0 9 0 0;wish 0 0 1 2;wish 1 5 2 4;wish 1 2 3 1;");
        int[] far = {9, 11, 0, 5, 2, 14};
        int[] near = {10, 14, 25, 14, 5, 10};
        for (int p = 0; p < 6; p++) {
            DUE.is("6 fit of a far voice for " + p, play.fit(0, p), far[p]);
            DUE.is("6 fit of a near voice for " + p, play.fit(1, p), near[p]);
        }
        SchoolPlay shadow = of("part 6 0 3;part 6 0 0;child 4 0 2 9 0;child 1 0 9 9 0;wish 0 1 0;");
        DUE.is("6 half is cut: (9 + 4 + 4 - 9) / 2", shadow.fit(0, 0), 4);
        DUE.is("6 (8 + 6 + 4 - 9) / 2", shadow.fit(0, 1), 4);
        DUE.is("6 half of 0 at least", shadow.fit(1, 0), 0);
        DUE.is("6 no such child", shadow.fit(2, 0), -2);
        DUE.is("6 no such part", shadow.fit(0, 2), -2);
        DUE.is("6 below", shadow.fit(-1, -1), -2);
        DUE.is("6 far out", shadow.fit(TOP, LOW), -2);
        refusals("6", shadow, 4, 0, 0);
    }

    private static void clash() {
        SchoolPlay play = of("part 0 0 0;part 0 0 0;part 0 0 0;part 0 0 0;"
                + "scene 1 0;scene 1 1;scene 1 1;scene 1 0;scene 1 0;scene 1 0;scene 1 2;");
        int[] firstAndSecond = {0, 1, 1, 1};
        int[] secondAndThird = {0, 0, 0, 0};
        for (int change = 0; change < 4; change++) {
            play.put(0, change);
            DUE.is("7 0 and 1, CHANGE " + change, play.clash(0, 1), firstAndSecond[change]);
            DUE.is("7 1 and 0, CHANGE " + change, play.clash(1, 0), firstAndSecond[change]);
            DUE.is("7 1 and 2, CHANGE " + change, play.clash(2, 1), secondAndThird[change]);
            DUE.is("7 a part of no scene", play.clash(0, 3), 0);
        }
        SchoolPlay far = of("part 0 0 0;part 0 0 0;scene 1 0;scene 1 0;scene 1 0;scene 1 0;scene 1 1;scene 1 0 1;");
        DUE.is("7 one scene together", far.clash(0, 1), 1);
        SchoolPlay third = of("part 0 0 0;part 0 0 0;part 0 0 0;scene 1 0;scene 1 2;scene 1 2;scene 1 1;");
        third.put(0, 2);
        DUE.is("7 three apart, CHANGE 2", third.clash(0, 1), 0);
        third.put(0, 3);
        DUE.is("7 three apart, CHANGE 3", third.clash(0, 1), 1);
        DUE.is("7 alike", third.clash(1, 1), -2);
        DUE.is("7 below", third.clash(-1, 0), -2);
        DUE.is("7 above", third.clash(0, 3), -2);
        refusals("7", third, 3, 0, 0);
    }

    private static void best() {
        SchoolPlay play = of("part 0 0 5;part 0 0 5;part 0 0 0;child 1 0 5 0 0;child 1 0 4 0 0;child 1 0 4 0 0;scene 1 0 1;");
        DUE.is("8 most fit: 10, 9, 6", play.best(-1), 25);
        DUE.is("8 of like ones the first row", play.best(0), 0);
        DUE.is("8 no clash", play.best(1), 1);
        DUE.is("8 two parts for one", play.best(2), 1);
        play.put(1, 1);
        DUE.is("8 with EACH", play.best(-1), 25);
        DUE.is("8 each child has one", play.best(2), 2);
        DUE.is("8 part 3", play.best(3), -10);
        DUE.is("8 part -2", play.best(-2), -10);
        refusals("8", play, 2, 0, 0);
        SchoolPlay few = of("part 0 0 5;part 0 0 5;child 1 0 5 0 0;scene 1 0 1;");
        DUE.is("8 there is none", few.best(-1), -20);
        DUE.is("8 there is none", few.best(1), -20);
        DUE.is("8 BAD ahead of NO", few.best(2), -10);
        refusals("8", few, 1, 2, 0);
        SchoolPlay many = of("part 0 0 5;child 1 0 5 0 0;child 1 0 5 0 0;");
        DUE.is("8 more children than parts", many.best(0), 0);
        many.put(1, 1);
        DUE.is("8 and EACH", many.best(0), -20);
        SchoolPlay nobody = of("part 0 0 5;");
        DUE.is("8 no children", nobody.best(-1), -20);
        SchoolPlay nothing = of("child 1 0 5 0 0;");
        DUE.is("8 no parts", nothing.best(-1), 0);
        nothing.put(1, 1);
        DUE.is("8 no parts, but EACH", nothing.best(-1), -20);
    }

    private static void fewest() {
        SchoolPlay play = of("part 0 0 0;part 0 0 0;part 0 0 0;part 0 0 0;part 0 0 0;part 0 0 0;"
                + "scene 1 0 1;scene 1 1 2;scene 1 2 3;scene 1 3 4;scene 1 0 4;");
        DUE.is("9 a ring of five, and one of no scene", play.fewest(), 3);
        play.put(0, 3);
        DUE.is("9 all of the ring clash", play.fewest(), 5);
        DUE.is("9 none", new SchoolPlay().fewest(), 0);
        DUE.is("9 all in one scene", of("part 0 0 0;".repeat(6) + "scene 1 0 1 2 3 4 5;").fewest(), 6);
        DUE.is("9 no scenes", of("part 0 0 0;".repeat(6)).fewest(), 1);
    }

    private static void cast() {
        SchoolPlay play = of("part 0 0 0;part 0 0 0;child 1 0 0 0 0;child 1 0 0 0 0;scene 1 0 1;");
        DUE.is("10 nobody had it", play.cast(0, 1), -1);
        DUE.is("10 clashes or not", play.cast(1, 1), -1);
        DUE.is("10 who had it", play.cast(0, 0), 1);
        DUE.is("10 nobody has it", play.cast(0, -1), 0);
        DUE.is("10 nobody had it", play.cast(0, -1), -1);
        long before = play.digest();
        DUE.is("10 part 2", play.cast(2, 0), -10);
        DUE.is("10 part -1", play.cast(-1, 0), -10);
        DUE.is("10 child 2", play.cast(0, 2), -10);
        DUE.is("10 child -2", play.cast(0, -2), -10);
        DUE.is("10 refused ones change nothing", play.digest(), before);
        refusals("10", play, 4, 0, 0);
    }

    private static void takeBest() {
        SchoolPlay play = of("part 0 0 5;part 0 0 0;child 1 0 0 0 0;child 1 0 5 0 0;");
        play.cast(0, 0);
        DUE.is("11 fit of all", play.takeBest(), 20);
        DUE.is("11 who has 0", play.cast(0, 1), 1);
        DUE.is("11 who has 1", play.cast(1, 0), 0);
        SchoolPlay few = of("part 0 0 5;part 0 0 5;child 1 0 5 0 0;scene 1 0 1;");
        few.cast(0, 0);
        DUE.is("11 there is none", few.takeBest(), -3);
        DUE.is("11 cast stays", few.cast(0, 0), 0);
        refusals("11", few, 0, 1, 0);
    }

    private static void rehearse() {
        SchoolPlay play = of("part 0 9 0;part 0 6 0;part 0 60 0;part 0 0 0;child 3 0 0 0 0;child 7 0 0 0 0;child 1 0 0 0 0;"
                + "scene 1 0 1;scene 1 2 3;scene 1 1;");
        play.cast(0, 0);
        play.cast(2, 1);
        play.cast(3, 1);
        DUE.is("12 child 1 sits, 2 has no part", play.rehearse(0, 2), 1);
        DUE.is("12 10 * 3 * 2 / 10", play.known(0), 6);
        DUE.is("12 nobody has it", play.known(1), 0);
        DUE.is("12 child 0 sits", play.rehearse(1, 1), 1);
        DUE.is("12 10 * 7 * 1 / 61 is cut", play.known(2), 1);
        DUE.is("12 10 * 7 * 1 / 1", play.known(3), 70);
        DUE.is("12 both sit", play.rehearse(2, 40), 2);
        play.rehearse(1, 1);
        DUE.is("12 100 at most", play.known(3), 100);
        DUE.is("12 m 0", play.rehearse(0, 0), -2);
        DUE.is("12 m 41", play.rehearse(0, 41), -2);
        DUE.is("12 scene 3", play.rehearse(3, 1), -2);
        DUE.is("12 scene -1", play.rehearse(-1, 1), -2);
        DUE.is("12 nothing more is known", play.known(0), 6);
        refusals("12", play, 4, 0, 0);
    }

    private static void night() {
        SchoolPlay play = of("part 0 9 0;part 0 9 0;part 0 9 0;child 9 3 0 0 0;child 9 0 0 0 0;scene 1 0 1 2;");
        for (int p = 0; p < 3; p++) {
            play.cast(p, p == 1 ? 1 : 0);
        }
        play.rehearse(0, 1);
        play.cast(2, -1);
        DUE.is("13 night", play.night(), 1);
        DUE.is("13 9 less 27 / 20", play.known(0), 8);
        DUE.is("13 who forgets nothing", play.known(1), 9);
        DUE.is("13 what nobody has", play.known(2), 9);
        play.night();
        play.night();
        play.night();
        DUE.is("13 what is little is not forgotten: 7, 6, 6", play.known(0), 6);
        DUE.is("13 with nothing", new SchoolPlay().night(), 1);
    }

    private static void known() {
        SchoolPlay play = of("part 0 9 0;child 9 3 0 0 0;scene 1 0;");
        play.cast(0, 0);
        DUE.is("14 at first", play.known(0), 0);
        play.rehearse(0, 40);
        DUE.is("14 all", play.known(0), 100);
        play.cast(0, -1);
        DUE.is("14 it stays with another cast", play.known(0), 100);
        DUE.is("14 part 1", play.known(1), -2);
        DUE.is("14 part -1", play.known(-1), -2);
        DUE.is("14 far out", play.known(TOP), -2);
        refusals("14", play, 3, 0, 0);
    }

    private static void sat() {
        SchoolPlay play = of("part 0 9 0;part 0 9 0;child 9 3 0 0 0;child 9 3 0 0 0;scene 1 0;");
        play.cast(0, 0);
        play.cast(1, 1);
        play.rehearse(0, 40);
        play.rehearse(0, 7);
        DUE.is("15 in it", play.sat(0), 0);
        DUE.is("15 in all", play.sat(1), 47);
        play.cast(0, 1);
        play.rehearse(0, 1);
        DUE.is("15 one part in it is enough", play.sat(1), 47);
        DUE.is("15 who has none does not sit", play.sat(0), 0);
        DUE.is("15 child 2", play.sat(2), -2);
        DUE.is("15 child -1", play.sat(-1), -2);
        refusals("15", play, 2, 0, 0);
    }

    private static SchoolPlay slipping() {
        return of("part 0 10 0;part 0 7 0;child 9 0 0 0 0;scene 1 0 1;scene 2 0;scene 4 0 1;");
    }

    private static void slips() {
        SchoolPlay play = slipping();
        DUE.is("16 10 / 7, 7 / 5", play.slips(0), 200);
        DUE.is("16 20 / 7", play.slips(1), 200);
        DUE.is("16 40 / 7, 28 / 5", play.slips(2), 1000);
        DUE.is("16 of all", play.slips(-1), 1400);
        play.cast(1, 0);
        play.rehearse(0, 1);
        DUE.is("16 11 of part 1 are known", play.slips(2), 945);
        DUE.is("16 scene 3", play.slips(3), -2);
        DUE.is("16 scene -2", play.slips(-2), -2);
        refusals("16", play, 2, 0, 0);
        DUE.is("16 no scenes", new SchoolPlay().slips(-1), 0);
    }

    private static void cut() {
        SchoolPlay play = slipping();
        DUE.is("17 part 0 saves 500, part 1 400", play.cut(), 0);
        play.cast(0, 0);
        play.rehearse(1, 40);
        DUE.is("17 part 0 is known", play.cut(), 1);
        DUE.is("17 cut changes nothing", play.slips(-1), 600);
        DUE.is("17 of like ones the least", of("part 0 9 0;part 0 9 0;scene 1 0 1;").cut(), 0);
        DUE.is("17 the second of three", of("part 0 8 0;part 0 9 0;part 0 9 0;scene 1 0 1 2;").cut(), 1);
        DUE.is("17 no scenes", of("part 0 8 0;part 0 9 0;").cut(), 0);
        SchoolPlay none = of("child 1 0 0 0 0;");
        DUE.is("17 no parts", none.cut(), -1);
        refusals("17", none, 0, 0, 0);
    }

    private static void plan() {
        SchoolPlay play = of("part 0 9 0;part 0 9 0;part 0 0 0;child 4 5 0 0 0;child 4 5 0 0 0;scene 1 0;scene 1 1;scene 1 0 1;scene 1 2;");
        play.cast(0, 0);
        play.cast(1, 1);
        play.cast(2, 0);
        DUE.is("18 both in one scene: 40 less 10", play.plan(1, 10, -1), 30);
        DUE.is("18 that one", play.plan(1, 10, 0), 2);
        DUE.is("18 twice: 30 and 40 less 17", play.plan(2, 10, -1), 53);
        DUE.is("18 the second day", play.plan(2, 10, 1), 2);
        DUE.is("18 40 minutes: 100 less 25 at best", play.plan(1, 40, -1), 75);
        DUE.is("18 four days", play.plan(4, 40, -1), 75);
        DUE.is("18 the last day counts, then who sits, then the first row", play.plan(4, 40, 0), 2);
        DUE.is("18 nothing changes", play.known(0) + play.sat(0) + play.sat(1), 0);
        DUE.is("18 d 0", play.plan(0, 10, -1), -2);
        DUE.is("18 d 5", play.plan(5, 10, -1), -2);
        DUE.is("18 m 0", play.plan(1, 0, -1), -2);
        DUE.is("18 m 41", play.plan(1, 41, -1), -2);
        DUE.is("18 i 1 of 1", play.plan(1, 10, 1), -2);
        DUE.is("18 i -2", play.plan(1, 10, -2), -2);
        refusals("18", play, 6, 0, 0);
    }

    private static void planEdges() {
        SchoolPlay sitting = of("part 0 9 0;part 0 0 0;part 0 0 0;child 1 0 0 0 0;child 1 0 0 0 0;child 1 0 0 0 0;scene 1 0;scene 1 0 1;scene 1 0 2;");
        for (int p = 0; p < 3; p++) {
            sitting.cast(p, p);
        }
        DUE.is("18 the least that sit, of like ones the first", sitting.plan(3, 1, 0), 1);
        DUE.is("18 on each day", sitting.plan(3, 1, 2), 1);
        SchoolPlay fromNow = of("part 0 9 0;part 0 9 0;child 1 0 0 0 0;scene 1 0;scene 1 1;");
        fromNow.cast(0, 0);
        fromNow.cast(1, 0);
        fromNow.rehearse(0, 10);
        DUE.is("18 from what is known", fromNow.plan(1, 5, 0), 1);
        DUE.is("18 least known", fromNow.plan(1, 5, -1), 5);
        SchoolPlay silent = of("part 5 0 0;scene 1 0;scene 1 0;");
        DUE.is("18 no parts with lines", silent.plan(2, 5, -1), 100);
        DUE.is("18 the first row", silent.plan(2, 5, 1), 0);
        DUE.is("18 a part that nobody has", of("part 5 1 0;scene 1 0;scene 1 0;").plan(2, 5, -1), 0);
        SchoolPlay none = of("part 0 1 0;");
        DUE.is("18 no scenes", none.plan(1, 1, -1), -3);
        DUE.is("18 BAD ahead of NO", none.plan(1, 1, 1), -2);
        refusals("18", none, 1, 1, 0);
    }

    private static void behind() {
        SchoolPlay play = of("part 0 0 0;child 1 0 0 0 0;child 1 0 0 0 0;");
        DUE.is("19 nobody did", play.behind(0, 1), -1);
        DUE.is("19 who did", play.behind(0, 0), 1);
        DUE.is("19 cast is another thing", play.cast(0, 0), -1);
        DUE.is("19 nobody does", play.behind(0, -1), 0);
        DUE.is("19 nobody did", play.behind(0, -1), -1);
        DUE.is("19 part 1", play.behind(1, 0), -10);
        DUE.is("19 part -1", play.behind(-1, 0), -10);
        DUE.is("19 child 2", play.behind(0, 2), -10);
        DUE.is("19 child -2", play.behind(0, -2), -10);
        refusals("19", play, 4, 0, 0);
    }

    private static void odds() {
        SchoolPlay play = of("part 0 0 0;part 0 0 0;child 1 0 0 0 5;child 1 0 0 0 8;child 1 0 0 0 19;scene 1 0;scene 1 1;");
        DUE.is("20 nobody plays", play.odds(), 1);
        fraction("20 nobody plays", play, 0, 1);
        play.cast(0, 0);
        play.cast(1, 1);
        play.odds();
        fraction("20 15 by 20, 12 by 20", play, 9, 20);
        play.behind(0, 1);
        play.odds();
        fraction("20 12 by 20: child 1 plays both", play, 3, 5);
        play.put(0, 1);
        play.odds();
        fraction("20 they clash", play, 9, 20);
        play.behind(0, 2);
        play.odds();
        fraction("20 (15 + 5 by 20) by 20, 12 by 20", play, 183, 400);
        play.cast(1, -1);
        play.behind(1, 1);
        play.odds();
        fraction("20 only one behind", play, 183, 400);
        SchoolPlay none = new SchoolPlay();
        none.odds();
        fraction("20 no parts", none, 1, 1);
        SchoolPlay six = of("part 0 0 0;".repeat(6) + "child 1 0 0 0 1;".repeat(6));
        for (int p = 0; p < 6; p++) {
            six.cast(p, p);
        }
        six.odds();
        fraction("20 six of them", six, 47045881, 64000000);
    }

    private static void next() {
        String children = "child 2 0 0 0 5;child 3 0 0 0 10;child 9 0 0 0 10;";
        SchoolPlay play = of("part 0 4 0;part 0 2 0;" + children);
        play.cast(0, 0);
        play.cast(1, 0);
        DUE.is("21 one behind of two parts helps nothing", play.next(), -1);
        play.behind(0, 1);
        DUE.is("21 the same behind the other", play.next(), 11);
        play.behind(1, 1);
        DUE.is("21 each has one behind", play.next(), -1);
        SchoolPlay hours = of("part 0 10 0;" + children);
        hours.cast(0, 0);
        DUE.is("21 fewest hours: 4, 2", hours.next(), 2);
        DUE.is("21 nothing changes", hours.behind(0, -1), -1);
        SchoolPlay slow = of("part 0 10 0;child 9 0 0 0 5;child 1 0 0 0 10;child 2 0 0 0 10;");
        slow.cast(0, 0);
        DUE.is("21 fewest hours: 10, 5", slow.next(), 2);
        SchoolPlay up = of("part 0 9 0;child 9 0 0 0 5;child 4 0 0 0 10;child 3 0 0 0 10;");
        up.cast(0, 0);
        DUE.is("21 rounded up they are alike: 3, 3", up.next(), 1);
        SchoolPlay parts = of("part 0 9 0;part 0 3 0;part 0 3 0;child 9 0 0 0 0;child 3 0 0 0 9;");
        parts.cast(0, 0);
        parts.cast(1, 1);
        parts.cast(2, 0);
        DUE.is("21 the part of who is ill", parts.next(), 10);
        parts.cast(2, 1);
        DUE.is("21 one alone helps nothing", parts.next(), -1);
        SchoolPlay empty = of("part 0 9 0;child 9 0 0 0 0;child 3 0 0 0 9;");
        DUE.is("21 a part that nobody has", empty.next(), 0);
        DUE.is("21 no parts", new SchoolPlay().next(), -1);
        refusals("21", empty, 0, 0, 0);
    }

    private static void hot() {
        SchoolPlay play = of("part 0 0 5;part 0 0 5;part 0 0 5;child 1 0 0 0 0;child 1 0 1 0 0;child 1 0 5 0 0;scene 1 0 1;");
        play.cast(0, 0);
        play.cast(1, 1);
        play.cast(2, 1);
        play.put(1, 1);
        DUE.is("22 the fewest ahead of fit; EACH does not count", play.hot(0, -1), 1);
        DUE.is("22 the one that fits", play.hot(0, 0), 2);
        DUE.is("22 who stays", play.hot(0, 2), 1);
        DUE.is("22 two parts", play.hot(1, -1), 2);
        DUE.is("22 no clash", play.hot(1, 1), 2);
        DUE.is("22 who has none is ill", play.hot(2, -1), 0);
        play.cast(2, -1);
        DUE.is("22 a part that nobody has", play.hot(2, -1), 1);
        DUE.is("22 cast stays", play.cast(0, 0), 0);
        DUE.is("22 child 3", play.hot(3, -1), -10);
        DUE.is("22 child -1", play.hot(-1, -1), -10);
        DUE.is("22 part 3", play.hot(0, 3), -10);
        DUE.is("22 part -2", play.hot(0, -2), -10);
        refusals("22", play, 4, 0, 0);
        SchoolPlay two = of("part 0 0 0;part 0 0 0;child 1 0 0 0 0;child 1 0 0 0 0;scene 1 0 1;");
        DUE.is("22 there is none", two.hot(1, -1), -20);
        DUE.is("22 BAD ahead of NO", two.hot(1, 2), -10);
        refusals("22", two, 1, 1, 0);
        DUE.is("22 no parts", of("child 1 0 0 0 0;").hot(0, -1), 0);
        SchoolPlay like = of("part 0 0 0;child 1 0 0 0 0;child 1 0 0 0 0;child 1 0 0 0 0;");
        like.cast(0, 0);
        DUE.is("22 the first row", like.hot(0, 0), 1);
    }

    private static SchoolPlay wishing() {
        return of("part 0 0 0;part 0 0 0;part 0 0 0;child 1 0 0 0 0;child 1 0 0 0 0;child 1 0 0 0 0;child 1 0 0 0 0;"
                + "wish 0 0 1;wish 1 0 1 2;wish 2 1 0;");
    }

    private static void lots() {
        SchoolPlay play = wishing();
        int[] behindOneAnother = {0, 1, -1, -1};
        int[] firstWishesFirst = {0, 2, 1, -1};
        for (int c = 0; c < 4; c++) {
            DUE.is("23 rule 0, child " + c, play.lots(0, c), behindOneAnother[c]);
            DUE.is("23 rule 1, child " + c, play.lots(1, c), firstWishesFirst[c]);
        }
        DUE.is("23 rule 2", play.lots(2, 0), -10);
        DUE.is("23 rule -1", play.lots(-1, 0), -10);
        DUE.is("23 child 4", play.lots(0, 4), -10);
        DUE.is("23 child -1", play.lots(1, -1), -10);
        refusals("23", play, 4, 0, 0);
    }

    private static void gains() {
        SchoolPlay play = wishing();
        DUE.is("24 child 1 would tell 1 first", play.gains(1), 1);
        DUE.is("24 by rule 0 none", play.gains(0), -1);
        DUE.is("24 nothing changes", play.lots(1, 1), 2);
        DUE.is("24 rule 2", play.gains(2), -10);
        DUE.is("24 rule -1", play.gains(-1), -10);
        refusals("24", play, 2, 0, 0);
        DUE.is("24 no children", new SchoolPlay().gains(1), -1);
        SchoolPlay nothing = of("part 0 0 0;part 0 0 0;child 1 0 0 0 0;child 1 0 0 0 0;child 1 0 0 0 0;"
                + "wish 0 0;wish 1 0 1;wish 2 1;");
        DUE.is("24 nothing is behind all", nothing.gains(1), 1);
        DUE.is("24 part 0 told first", of("part 0 0 0;part 0 0 0;child 1 0 0 0 0;child 1 0 0 0 0;child 1 0 0 0 0;"
                + "wish 0 1;wish 1 1 0;wish 2 0;").gains(1), 1);
        DUE.is("24 what is not wished is no gain", of("part 0 0 0;part 0 0 0;child 1 0 0 0 0;child 1 0 0 0 0;"
                + "wish 0 0;wish 1 0;").gains(1), -1);
    }

    private static void tried() {
        SchoolPlay play = new SchoolPlay();
        DUE.is("25 tried", play.tried(10, 8, 2, 3, 2), 1);
        fraction("25 8 * 8 * 2 by that and 2 * 2 * 8", play, 4, 5);
        play.tried(5, 9, 3, 1, 0);
        fraction("25 5 * 1 by that and 15 * 7", play, 1, 22);
        play.tried(20, 1, 1, 9, 9);
        fraction("25 all are good", play, 1, 1);
        play.tried(0, 5, 5, 9, 4);
        fraction("25 none is good", play, 0, 1);
        play.tried(7, 10, 9, 9, 9);
        fraction("25 two limbs below", play, 7000000000L, 7000000000L + 13L * 387420489L);
        play.tried(10, 10, 0, 3, 3);
        fraction("25 nothing to the power 0 is 1", play, 1, 1);
        long before = play.digest();
        DUE.is("25 can not be", play.tried(10, 10, 0, 2, 1), -3);
        DUE.is("25 can not be", play.tried(20, 0, 5, 1, 1), -3);
        DUE.is("25 a", play.tried(21, 5, 5, 2, 1), -2);
        DUE.is("25 a", play.tried(-1, 5, 5, 2, 1), -2);
        DUE.is("25 g", play.tried(10, 11, 5, 2, 1), -2);
        DUE.is("25 g", play.tried(10, -1, 5, 2, 1), -2);
        DUE.is("25 h", play.tried(10, 5, 11, 2, 1), -2);
        DUE.is("25 h", play.tried(10, 5, -1, 2, 1), -2);
        DUE.is("25 n", play.tried(10, 5, 5, 0, 0), -2);
        DUE.is("25 n", play.tried(10, 5, 5, 10, 1), -2);
        DUE.is("25 k", play.tried(10, 5, 5, 2, 3), -2);
        DUE.is("25 k", play.tried(10, 5, 5, 2, -1), -2);
        DUE.is("25 refused ones change nothing", play.digest(), before);
        refusals("25", play, 10, 2, 0);
    }

    private static void years() {
        SchoolPlay play = new SchoolPlay();
        for (int i = 1; i <= 10; i++) {
            DUE.is("26 year " + i, play.year(i % 2), i);
        }
        DUE.is("26 an eleventh", play.year(0), -4);
        DUE.is("26 BAD ahead of FULL", play.year(2), -2);
        DUE.is("26 -1", play.year(-1), -2);
        refusals("26", play, 2, 0, 1);
        DUE.is("26 as they come", play.digest(), Edge.mixed(0, 0, 0, 10, 0, 0, 0, 1, 0, 1, 0, 1, 0, 1, 0, 1, 0, 0, 0, 1, 1));
        DUE.is("27 how many there were", play.forget(), 10);
        DUE.is("27 none", play.forget(), 0);
        DUE.is("27 none", play.count(3), 0);
        DUE.is("27 anew", play.year(1), 1);
    }

    private static void leans() {
        SchoolPlay play = new SchoolPlay();
        for (int which = 0; which < 3; which++) {
            DUE.is("28 leans", play.leans(which), 1);
            fraction("28 alike at first", play, 1, 3);
        }
        play.year(0);
        play.leans(0);
        fraction("28 8 of 15", play, 8, 15);
        play.leans(1);
        fraction("28 2 of 15", play, 2, 15);
        play.leans(2);
        fraction("28 5 of 15", play, 1, 3);
        for (int i = 0; i < 9; i++) {
            play.year(0);
        }
        play.leans(0);
        fraction("28 ten readers", play, 1L << 30, (1L << 30) + 1024 + 9765625);
        DUE.is("28 which 3", play.leans(3), -2);
        DUE.is("28 which -1", play.leans(-1), -2);
        refusals("28", play, 2, 0, 0);
    }

    private static void signAndLimbs() {
        SchoolPlay play = new SchoolPlay();
        DUE.is("29 sign of 0", play.sign(0), 0);
        DUE.is("29 no limbs above", play.sign(1), 0);
        DUE.is("29 one below", play.sign(2), 1);
        DUE.is("30 0 has none", play.limb(0, 0), -1);
        DUE.is("30 1 has one", play.limb(1, 0), 1);
        DUE.is("30 and no more", play.limb(1, 1), -1);
        for (int i = 0; i < 10; i++) {
            play.year(1);
        }
        play.leans(1);
        DUE.is("29 sign", play.sign(0), 1);
        DUE.is("29 1073741824 has two", play.sign(1), 2);
        DUE.is("29 1083508473 has two", play.sign(2), 2);
        DUE.is("30 the lowest first", play.limb(0, 0), 0);
        DUE.is("30 then 1", play.limb(0, 1), 1);
        DUE.is("30 not so many", play.limb(0, 2), -1);
        DUE.is("30 not so many", play.limb(0, TOP), -1);
        DUE.is("30 below", play.limb(1, 0), 9766649);
        DUE.is("30 below", play.limb(1, 1), 1);
        refusals("30 NONE is no refusal", play, 0, 0, 0);
        DUE.is("29 3", play.sign(3), -2);
        DUE.is("29 -1", play.sign(-1), -2);
        DUE.is("30 which 2", play.limb(2, 0), -2);
        DUE.is("30 which -1", play.limb(-1, 0), -2);
        DUE.is("30 i below 0", play.limb(0, -1), -2);
        refusals("29, 30", play, 5, 0, 0);
    }

    private static void images() {
        SchoolPlay play = of("part 0 9 0;child 9 4 3 2 1;scene 1 0;wish 0 0;");
        play.cast(0, 0);
        play.behind(0, 0);
        play.rehearse(0, 3);
        play.put(0, 1);
        play.put(1, 1);
        play.year(1);
        long kept = play.digest();
        DUE.is("31 kept", play.image(1), 1);
        Texts.read(play, "part 1 1 1;part 1 1 1;");
        play.put(0, 0);
        play.put(1, 0);
        play.forget();
        play.year(0);
        play.forget();
        play.image(0);
        DUE.is("32 on from 1", play.from(1), 1);
        DUE.is("32 all as it was", play.digest(), kept);
        play.night();
        DUE.is("32 the image does not change", play.from(1), 1);
        DUE.is("32 all as it was", play.digest(), kept);
        play.tried(10, 8, 2, 2, 2);
        play.known(7);
        DUE.is("32 from the other", play.from(0), 1);
        DUE.is("32 two parts", play.count(0), 2);
        DUE.is("32 no years", play.count(3), 0);
        fraction("32 the fraction is not kept", play, 16, 17);
        refusals("32 status is not kept", play, 1, 0, 0);
        play.image(1);
        play.clear();
        play.from(1);
        DUE.is("31 kept anew", play.count(4), 22);
        DUE.is("31 2", play.image(2), -2);
        DUE.is("31 -1", play.image(-1), -2);
        DUE.is("32 2", play.from(2), -2);
        DUE.is("32 -1", play.from(-1), -2);
        SchoolPlay none = new SchoolPlay();
        none.image(0);
        DUE.is("32 none was kept", none.from(1), -3);
        refusals("31, 32", play, 5, 0, 0);
        refusals("32", none, 0, 1, 0);
    }

    private static void status() {
        SchoolPlay play = new SchoolPlay();
        refusals("33 at first", play, 0, 0, 0);
        DUE.is("33 3", play.status(3), -1);
        DUE.is("33 -1", play.status(-1), -1);
        DUE.is("33 far out", play.status(LOW), -1);
        refusals("33 they count as BAD", play, 3, 0, 0);
        play.best(0);
        play.cast(0, 0);
        play.lots(0, 0);
        refusals("33 -10 counts as BAD", play, 6, 0, 0);
        Texts.read(play, "part 0 0 0;");
        play.best(-1);
        play.takeBest();
        refusals("33 -20 counts as NO", play, 6, 2, 0);
        play.cut();
        play.next();
        play.gains(0);
        refusals("33 NONE does not count", play, 6, 2, 0);
    }

    private static void count() {
        SchoolPlay play = of("part 0 9 0;part 0 9 0;part 0 9 0;child 9 4 3 2 1;child 9 4 3 2 1;scene 1 0;");
        play.year(0);
        play.year(0);
        play.year(0);
        play.year(0);
        int[] counts = {3, 2, 1, 4, 75};
        for (int what = 0; what < 5; what++) {
            DUE.is("34 count " + what, play.count(what), counts[what]);
        }
        DUE.is("34 5", play.count(5), -2);
        DUE.is("34 -1", play.count(-1), -2);
        refusals("34", play, 2, 0, 0);
    }

    private static void digest() {
        SchoolPlay play = of("part 1 9 2;part 6 0 9;child 9 1 2 3 4;child 5 6 7 8 19;scene 20 1;scene 3 0 1;wish 1 1 0;");
        play.cast(0, 1);
        play.cast(1, 0);
        play.behind(1, 1);
        play.rehearse(0, 1);
        play.put(0, 2);
        play.put(1, 1);
        play.clear();
        play.type(0x3BFF, 2);
        play.year(1);
        play.year(0);
        play.tried(7, 10, 9, 9, 9);
        long below = 7000000000L + 13L * 387420489L;
        DUE.is("35 digest", play.digest(), Edge.mixed(2, 2, 2, 2, 2,
                1, 9, 2, 1, -1, 0, 6, 0, 9, 0, 1, 90,
                9, 1, 2, 3, 4, -1, -1, -1, 0, 5, 6, 7, 8, 19, 1, 0, -1, 1,
                20, 2, 3, 3, 2, 1, 59, 255, 1, 0, 1, 2, 2,
                7000000000L % (1L << 30), 7000000000L >> 30, below % (1L << 30), below >> 30));
        DUE.is("35 it changes nothing", play.digest(), play.digest());
    }

    public static void main(String[] args) {
        newObject();
        type();
        clear();
        readsWell();
        readsFaults();
        readTakesThePlace();
        put();
        fit();
        clash();
        best();
        fewest();
        cast();
        takeBest();
        rehearse();
        night();
        known();
        sat();
        slips();
        cut();
        plan();
        planEdges();
        behind();
        odds();
        next();
        hot();
        lots();
        gains();
        tried();
        years();
        leans();
        signAndLimbs();
        images();
        status();
        count();
        digest();
        DUE.end();
    }
}
