/** The boundaries that the document's "What it is" and "Terms" name, sentence by sentence. */
public final class TermsBoundaryTest {
    private static final Check CHECK = new Check();
    /** Five reels are left in the barn 3, so that the van has room for what is put elsewhere. */
    private static final String ROOM = "route(f0:440,v3,-5,-6,-7,-8,-9); ";
    /** 60 minutes together. */
    private static final String SIXTY = "-2,-4,-5,-9,-0";
    /** 61 minutes together. */
    private static final String SIXTY_ONE = "-2,-4,-5,-9,-1";

    public static void main(String[] args) {
        calls();
        barns();
        reels();
        generators();
        placesOfThings();
        roomInTheVan();
        oneShowADay();
        firstReason();
        fuelForAShow();
        shareOfFreshReels();
        wornReelsKeepPeopleAway();
        takings();
        wear();
        goneForGood();
        costs();
        history();
        snapshot();
        state();
        CHECK.end();
    }

    private static void calls() {
        String acts = "drive(1) = 8; drive(0) = 8; ".repeat(254);
        CHECK.sentence("512 calls", acts + "count(5) = 4064; undo() = 3; count(1) = 1; count(13) = 3");
        CHECK.sentence("512 calls", "nextDay(); ".repeat(507)
            + "count(0) = 507; undo() = 3; undo() = 2; nextDay() = 506; count(13) = 3");
    }

    private static void barns() {
        CHECK.sentence("There are 5 barns, numbered from 0", "drive(-1) = UNKNOWN; drive(5) = UNKNOWN; "
            + "drive(4) = 45; drive(0) = 45; show(-1) = UNKNOWN; show(5) = UNKNOWN; show(0) = NO_SHOW-2; "
            + "show(4) = NO_SHOW-2; barn(-1, 0) = UNKNOWN; barn(5, 0) = UNKNOWN; barn(0, 0) = 0; barn(4, 0) = 45; "
            + "ifPrice(-1, 4) = UNKNOWN; ifPrice(5, 4) = UNKNOWN; ifPrice(0, 4) = 0; ifPrice(4, 4) = 0");
        CHECK.sentence("There are 5 barns (far outside)", "drive(MIN) = UNKNOWN; drive(MAX) = UNKNOWN; "
            + "show(MIN) = UNKNOWN; show(MAX) = UNKNOWN; barn(MIN, 0) = UNKNOWN; barn(MAX, 0) = UNKNOWN; "
            + "ifPrice(MIN, 4) = UNKNOWN; ifPrice(MAX, 4) = UNKNOWN");
        CHECK.sentence("at the miles 0, 8, 20, 26 and 45", "barn(0, 0) = 0; barn(1, 0) = 8; barn(2, 0) = 20; "
            + "barn(3, 0) = 26; barn(4, 0) = 45");
        CHECK.sentence("with 40, 60, 80, 50 and 30 seats", "barn(0, 1) = 40; barn(1, 1) = 60; barn(2, 1) = 80; "
            + "barn(3, 1) = 50; barn(4, 1) = 30");
        CHECK.sentence("rough by b modulo 3", "barn(0, 2) = 0; barn(1, 2) = 1; barn(2, 2) = 2; barn(3, 2) = 0; "
            + "barn(4, 2) = 1; route(v3,-0,g0,s) = 4; reel(0, 2) = 5; route(v4,-1,g1,s) = 4; reel(1, 2) = 6");
        CHECK.sentence("rough by b modulo 3", "route(v2,-0,g0,s) = 4; reel(0, 2) = 7; route(v1,-1,g1,s) = 4; "
            + "reel(1, 2) = 6");
        CHECK.sentence("The van is at a barn (at first 0); it drives to another one", "count(1) = 0; drive(0) = NONE; "
            + "count(13) = 0; count(5) = 0; drive(3) = 26; count(1) = 3; drive(3) = NONE; count(13) = 1; count(5) = 26");
        CHECK.sentence("1 coin for each mile", "drive(4) = 45; drive(3) = 19; drive(2) = 6; drive(1) = 12; "
            + "drive(0) = 8; count(5) = 90; count(8) = -90; drive(2) = 20; drive(4) = 25; drive(1) = 37; "
            + "drive(3) = 18; drive(0) = 26; count(5) = 216; count(8) = -216");
    }

    private static void reels() {
        CHECK.sentence("There are 10 reels, numbered from 0", "moveReel(-1, false) = UNKNOWN; "
            + "moveReel(10, false) = UNKNOWN; moveReel(-1, true) = UNKNOWN; moveReel(10, true) = UNKNOWN; "
            + "renew(-1) = UNKNOWN; renew(10) = UNKNOWN; reel(-1, 1) = UNKNOWN; reel(10, 1) = UNKNOWN; "
            + "moveReel(0, false) = 11; moveReel(9, false) = 10; reel(0, 0) = 0; reel(9, 0) = 0; reel(8, 0) = NONE");
        CHECK.sentence("There are 10 reels (far outside)", "moveReel(MIN, false) = UNKNOWN; "
            + "moveReel(MAX, true) = UNKNOWN; renew(MIN) = UNKNOWN; renew(MAX) = UNKNOWN; reel(MIN, 0) = UNKNOWN; "
            + "reel(MAX, 0) = UNKNOWN");
        CHECK.sentence("of 8 minutes and the reel's number each, at first", "reel(0, 1) = 8; reel(1, 1) = 9; "
            + "reel(8, 1) = 16; reel(9, 1) = 17; renew(0) = 8; renew(9) = 17");
    }

    private static void generators() {
        CHECK.sentence("2 generators, numbered from 0", "moveGenerator(-1, false) = UNKNOWN; "
            + "moveGenerator(2, false) = UNKNOWN; moveGenerator(-1, true) = UNKNOWN; moveGenerator(2, true) = UNKNOWN; "
            + "fuel(-1, 5) = UNKNOWN; fuel(2, 5) = UNKNOWN; generator(-1, 1) = UNKNOWN; generator(2, 1) = UNKNOWN; "
            + "fuel(0, 5) = 65; fuel(1, 10) = 70; moveGenerator(0, false) = 11; moveGenerator(1, false) = 10");
        CHECK.sentence("2 generators (far outside)", "moveGenerator(MIN, false) = UNKNOWN; "
            + "moveGenerator(MAX, true) = UNKNOWN; fuel(MIN, 5) = UNKNOWN; fuel(MAX, 5) = UNKNOWN; "
            + "generator(MIN, 0) = UNKNOWN; generator(MAX, 0) = UNKNOWN");
        CHECK.sentence("60 minutes of fuel each at first (0 to 500): none is left", "generator(0, 1) = 60; "
            + "generator(1, 1) = 60; route(" + SIXTY + ",g0,s) = 7; generator(0, 1) = 0; nextDay() = 1; "
            + "show(0) = NO_SHOW-4; generator(0, 1) = 0; generator(1, 1) = 60");
        CHECK.sentence("60 minutes of fuel each at first (0 to 500): a full tank", "fuel(1, 445) = FULL; "
            + "generator(1, 1) = 60; fuel(1, 440) = 500; fuel(1, 5) = FULL; fuel(1, 500) = FULL; generator(1, 1) = 500; "
            + "count(6) = 88; generator(0, 1) = 60");
        CHECK.sentence("60 minutes of fuel each at first (0 to 500): from none to a full tank", "route(" + SIXTY
            + ",g0,s,g0) = 8; generator(0, 1) = 0; fuel(0, 500) = 500; count(6) = 100; fuel(0, 5) = FULL");
        CHECK.sentence("60 minutes of fuel each at first (0 to 500): nearly full", "fuel(0, 435) = 495; "
            + "fuel(0, 10) = FULL; fuel(0, 5) = 500; fuel(0, 5) = FULL");
    }

    private static void placesOfThings() {
        CHECK.sentence("Each of these is in the van (at first)", "count(2) = 12; reel(0, 0) = NONE; reel(9, 0) = NONE; "
            + "generator(0, 0) = NONE; generator(1, 0) = NONE; barn(0, 3) = 0");
        CHECK.sentence("things are put from the van into the barn at which the van is", "route(-0,g0,v1,-1,g1) = 5; "
            + "reel(0, 0) = 0; generator(0, 0) = 0; reel(1, 0) = 1; generator(1, 0) = 1; barn(0, 3) = 1; barn(1, 3) = 1");
        CHECK.sentence("and taken back likewise", "route(-0,g0,v1,-1,g1,-2,-3) = 7; count(2) = 6; "
            + "moveReel(0, true) = NOT_POSSIBLE; moveReel(0, false) = NOT_POSSIBLE; "
            + "moveGenerator(0, true) = NOT_POSSIBLE; moveGenerator(0, false) = NOT_POSSIBLE; moveReel(1, true) = 7; "
            + "moveGenerator(1, true) = 8; reel(1, 0) = NONE; generator(1, 0) = NONE; reel(0, 0) = 0");
        CHECK.sentence("the van is empty", "route(-0,-1,-2,-3,-4,-5,-6,-7,-8,-9,g0,g1) = 12; count(2) = 0; "
            + "barn(0, 3) = 10; barn(0, 4) = 125; moveGenerator(1, false) = NONE; moveReel(0, false) = NONE; "
            + "moveGenerator(1, true) = 1; moveReel(9, true) = 2");
    }

    private static void roomInTheVan() {
        CHECK.sentence("nothing is taken into it while it has 8 or more", "moveReel(0, false) = 11; "
            + "moveReel(0, true) = FULL; moveGenerator(0, false) = 10; moveGenerator(0, true) = FULL; "
            + "moveReel(1, false) = 9; moveReel(0, true) = FULL; moveGenerator(0, true) = FULL; moveReel(2, false) = 8; "
            + "moveReel(0, true) = FULL; moveGenerator(0, true) = FULL; count(2) = 8; reel(0, 0) = 0");
        CHECK.sentence("The van has room for 8 things at most", "route(-0,-1,-2,-3,g0) = 5; count(2) = 7; "
            + "moveReel(0, true) = 8; moveReel(1, true) = FULL; moveReel(0, false) = 7; moveGenerator(0, true) = 8; "
            + "moveGenerator(0, true) = NONE; moveReel(0, true) = FULL; count(2) = 8");
        CHECK.sentence("what is in it as it has more at first stays in it", "moveReel(9, true) = NONE; "
            + "moveGenerator(1, true) = NONE; drive(4) = 45; count(2) = 12; reel(9, 0) = NONE; generator(1, 0) = NONE; "
            + "nextDay() = 1; count(2) = 12; fuel(1, 5) = 65; renew(9) = 17; count(2) = 12");
    }

    private static void oneShowADay() {
        CHECK.sentence("on it each barn can have one show at most", "route(-0,g0) = 2; show(0) = 160; "
            + "show(0) = NO_SHOW-1; count(9) = 1; generator(0, 1) = 52; nextDay() = 1; show(0) = 0; show(0) = NO_SHOW-1; "
            + "undo() = 3; show(0) = 0; barn(0, 7) = 2");
        CHECK.sentence("each barn", "route(-0,g0,v1,-1,g1) = 5; show(0) = 160; show(1) = 240; show(0) = NO_SHOW-1; "
            + "show(1) = NO_SHOW-1; barn(2, 6) = 2; count(9) = 2");
    }

    private static void firstReason() {
        CHECK.sentence("1 ahead of 2 and 3", ROOM + "route(v0,-0,g0,s,+0,g0) = 6; barn(0, 6) = 1; show(0) = NO_SHOW-1; "
            + "nextDay() = 1; barn(0, 6) = 2; show(0) = NO_SHOW-2");
        CHECK.sentence("1 ahead of 3", ROOM + "route(v0,-0,g0,s,g0) = 5; barn(0, 6) = 1; show(0) = NO_SHOW-1; "
            + "nextDay() = 1; barn(0, 6) = 3; show(0) = NO_SHOW-3");
        CHECK.sentence("1 ahead of 4", "route(" + SIXTY + ",g0,s) = 7; barn(0, 6) = 1; show(0) = NO_SHOW-1; "
            + "nextDay() = 1; barn(0, 6) = 4; show(0) = NO_SHOW-4");
        CHECK.sentence("2 ahead of 3", "barn(4, 6) = 2; show(4) = NO_SHOW-2; moveGenerator(0, false) = 11; "
            + "barn(0, 6) = 2; show(0) = NO_SHOW-2; generator(0, 1) = 60");
        CHECK.sentence("2 with a generator that has no fuel", "route(v3,-1,-3,-6,v0," + SIXTY + ",g0,s,d) = 13; "
            + "route(+2,+4,+5,+9,+0) = 5; generator(0, 0) = 0; generator(0, 1) = 0; barn(0, 6) = 2; show(0) = NO_SHOW-2");
        CHECK.sentence("3 ahead of 4", "route(" + SIXTY_ONE + ") = 5; barn(0, 6) = 3; show(0) = NO_SHOW-3; "
            + "moveGenerator(1, false) = 6; barn(0, 6) = 4; show(0) = NO_SHOW-4; generator(1, 1) = 60");
        CHECK.sentence("a generator in the van or in another barn is not there", "route(-0) = 1; show(0) = NO_SHOW-3; "
            + "route(v1,g0,g1) = 3; show(0) = NO_SHOW-3; show(1) = NO_SHOW-2");
    }

    private static void fuelForAShow() {
        CHECK.sentence("fuel for all minutes of its reels together: just enough", "route(" + SIXTY + ",g1) = 6; "
            + "barn(0, 4) = 60; barn(0, 6) = 0; show(0) = 160; generator(1, 1) = 0; showOf(0, 4) = 60");
        CHECK.sentence("fuel for all minutes of its reels together: 1 too little", "route(" + SIXTY_ONE + ",g1) = 6; "
            + "barn(0, 4) = 61; barn(0, 6) = 4; show(0) = NO_SHOW-4; generator(1, 1) = 60; count(9) = 0");
        CHECK.sentence("no generator there has fuel for all: two do not add up", "route(" + SIXTY_ONE
            + ",g0,g1) = 7; show(0) = NO_SHOW-4; generator(0, 1) = 60; generator(1, 1) = 60");
        CHECK.sentence("no generator there: another barn's has", "route(f1:5," + SIXTY_ONE + ",g0,v1,g1) = 9; "
            + "show(0) = NO_SHOW-4; generator(1, 1) = 65");
        CHECK.sentence("else the lowest one that has is used", "route(-0,g1,g0,s) = 4; generator(0, 1) = 52; "
            + "generator(1, 1) = 60");
        CHECK.sentence("the lowest one that has: not the lower one", "route(f1:5," + SIXTY_ONE + ",g0,g1,s) = 9; "
            + "generator(0, 1) = 60; generator(1, 1) = 4; nextDay() = 1; show(0) = NO_SHOW-4");
        CHECK.sentence("the lowest one that has: the lower one is empty", "route(" + SIXTY + ",g0,s,g1,d,s) = 10; "
            + "generator(0, 1) = 0; generator(1, 1) = 0; count(9) = 2");
    }

    private static void shareOfFreshReels() {
        CHECK.sentence("all are fresh", "route(v4,-0,-1) = 3; barn(4, 5) = 30; route(v2,-2,-3,-4) = 4; barn(2, 5) = 80");
        CHECK.sentence("none is fresh", "route(v4,-0,g0,s) = 4; barn(4, 5) = 0; ifPrice(4, 99) = 0");
        CHECK.sentence("rounded down: 7 and a half", "route(f0:40,v4,-0,-1,-2,g0,s,-3) = 8; barn(4, 5) = 7; "
            + "route(d,s) = 2; showOf(0, 2) = 7; count(10) = 37");
        CHECK.sentence("rounded down: 26 and two thirds", "route(f0:40,v2,-0,-1,g0,s,-2) = 7; barn(2, 5) = 26");
        CHECK.sentence("rounded down: 53 and a third", "route(f0:40,v2,-0,g0,s,-1,-2) = 7; barn(2, 5) = 53");
        CHECK.sentence("not played in this barn: but in another one", ROOM + "route(v1,-0,g0,s,+0,g0,v4,-0) = 8; "
            + "barn(4, 5) = 30; route(+0,v1,-0) = 3; barn(1, 5) = 0; reel(0, 4) = 2");
        CHECK.sentence("since they were last renewed", ROOM + "route(v0,-0,g0,s,+0) = 5; route(-0) = 1; barn(0, 5) = 0; "
            + "moveReel(0, true) = 6; renew(0) = 8; moveReel(0, false) = 5; barn(0, 5) = 40; reel(0, 4) = 0");
        CHECK.sentence("reels of the show: not those of the van", "route(v2,-0,g0,s) = 4; barn(2, 5) = 0; "
            + "moveReel(1, false) = 9; barn(2, 5) = 40");
    }

    /** Wears the reel 0 by shows in other barns, each told as its route, and asks in the barn 0 then. */
    private static void wornAs(int wear, String route, int people) {
        CHECK.sentence("1 less for each 10 of the wear: " + wear, ROOM + "route(" + route + "); route(+0,g0,v0,-0) = 4; "
            + "reel(0, 2) = " + wear + "; reel(0, 3) = 0; barn(0, 5) = " + people + "; ifPrice(0, 1) = " + people
            + "; moveReel(1, false); barn(0, 5) = " + people + "; moveGenerator(0, false); route(s) = 1; showOf(0, 2) = "
            + people);
    }

    private static void wornReelsKeepPeopleAway() {
        wornAs(7, "v2,-0,g0,s", 40);
        wornAs(10, "-0,g0,s,d,s", 39);
        wornAs(19, "v1,-0,g0,s,d,s,+0,g0,v2,-0,g0,s", 39);
        wornAs(20, "v1,-0,g0,s,+0,g0,v2,-0,g0,s,d,s", 38);
        wornAs(29, "-0,g0,s,+0,g0,v1,-0,g0,s,d,s,d,s,d,s", 38);
        wornAs(30, "v4,-0,g0,s,d,s,d,s,d,s,d,s", 37);
        wornAs(39, "v1,-0,g0,s,d,s,d,s,+0,g0,v2,-0,g0,s,d,s,d,s", 37);
        CHECK.sentence("of the most worn reel: the first", ROOM + "route(v4,-0,g0,s,d,s,d,s,d,s,-1,d,s); "
            + "route(+0,+1,g0,v0,-0,-1) = 6; reel(0, 2) = 30; reel(1, 2) = 6; barn(0, 5) = 37");
        CHECK.sentence("of the most worn reel: the last", ROOM + "route(v4,-1,g0,s,d,s,d,s,d,s,-0,d,s); "
            + "route(+0,+1,g0,v0,-0,-1) = 6; reel(0, 2) = 6; reel(1, 2) = 30; barn(0, 5) = 37");
        CHECK.sentence("the wear ahead of it", ROOM + "route(v2,-0,g0,s,+0,g0,v0,-0,g0,s) = 10; showOf(0, 2) = 40; "
            + "reel(0, 2) = 12");
        CHECK.sentence("but at least 0: nobody is left to stay away", "route(-0,g0,s,d,s) = 5; reel(0, 2) = 10; "
            + "barn(0, 5) = 0; ifPrice(0, 99) = 0; route(d,s) = 2; showOf(0, 2) = 0; showOf(0, 3) = 0; count(10) = 40");
        String nine = "route(f0:440,v4,-0,g0); route(s,d,s,d,s,d,s,d%s); route(-1,-2,-3,-4,-5,-6,-7,-8,s,-9); ";
        CHECK.sentence("but at least 0: 3 less 3", String.format(nine, "") + "reel(0, 2) = 30; reel(1, 2) = 6; "
            + "barn(4, 5) = 0; ifPrice(4, 99) = 0");
        CHECK.sentence("but at least 0: 3 less 3", String.format(nine, ",s,d") + "reel(0, 2) = 36; barn(4, 5) = 0");
        CHECK.sentence("but at least 0: 3 less 2", "route(f0:440,v4,-0,g0,s,d,s,d,s,d); "
            + "route(-1,-2,-3,-4,-5,-6,-7,-8,s,-9); reel(0, 2) = 24; barn(4, 5) = 1; ifPrice(4, 99) = 99");
    }

    private static void takings() {
        CHECK.sentence("The takings are the people times the price (1 to 99; 4 at first)", "count(11) = 4; "
            + "route(-0,g0,v2,-1,g1) = 5; setPrice(1) = 4; show(0) = 40; setPrice(99) = 1; show(2) = 7920; "
            + "count(4) = 7960; showOf(0, 3) = 7920; showOf(1, 3) = 40; barn(2, 8) = 7920; count(10) = 120");
        CHECK.sentence("the price: 1 to 99", "setPrice(0) = BAD_VALUE; setPrice(100) = BAD_VALUE; setPrice(-1) = BAD_VALUE; "
            + "setPrice(MIN) = BAD_VALUE; setPrice(MAX) = BAD_VALUE; count(11) = 4; setPrice(1) = 4; setPrice(99) = 1; "
            + "setPrice(99) = NONE; setPrice(100) = BAD_VALUE; count(11) = 99; count(13) = 2");
    }

    private static void wear() {
        CHECK.sentence("Behind the show, each of its reels has been played in this barn, and wears",
            "route(v1,-9,v0,-0,-1,g0,s) = 7; reel(0, 2) = 5; reel(1, 2) = 5; reel(2, 2) = 0; reel(9, 2) = 0; "
            + "reel(0, 4) = 1; reel(1, 4) = 1; reel(2, 4) = 0; reel(9, 4) = 0");
        String seven = "route(f0:440,-0,g0,s,d,s,d,s,d,s,d,s,d,s,d,s); ";
        CHECK.sentence("A reel whose wear is 40 or more breaks: 40", seven + "reel(0, 2) = 35; reel(0, 1) = 8; "
            + "reel(0, 3) = 0; reel(0, 5) = 21; count(12) = 0; nextDay() = 7; show(0) = 0; reel(0, 2) = 20; "
            + "reel(0, 1) = 7; reel(0, 3) = 1; reel(0, 5) = 20; count(12) = 1; showOf(0, 4) = 8; barn(0, 4) = 7");
        String thirtyNine = ROOM + "route(v1,-0,g0,s,d,s,d,s,+0,g0,v2,-0,g0,s,d,s,d,s); ";
        CHECK.sentence("this is done until the wear is below 40: 39", thirtyNine + "reel(0, 2) = 39; reel(0, 1) = 8; "
            + "reel(0, 3) = 0; reel(0, 5) = 21; count(12) = 0");
        CHECK.sentence("its wear becomes 20 less: the most that there is", thirtyNine + "nextDay() = 5; show(2) = 0; "
            + "reel(0, 2) = 26; reel(0, 1) = 7; reel(0, 3) = 1; reel(0, 5) = 19; count(12) = 1; barn(2, 4) = 7");
        CHECK.sentence("it is spliced: each of several", "route(f0:440,-0,-1,g0,s,d,s,d,s,d,s,d,s,d,s,d,s); "
            + "moveReel(2, false); route(d,s) = 2; count(12) = 2; reel(0, 3) = 1; reel(1, 3) = 1; reel(1, 1) = 8; "
            + "reel(2, 3) = 0; reel(2, 2) = 5; reel(2, 1) = 10; barn(0, 4) = 25");
    }

    private static void goneForGood() {
        String shows = "route(f0:300,-0,g0); route(s,d,s,d,s,d,s,d,s,d,s,d,s,d,s,d); route(s,d,s,d,s,d,s,d); "
            + "perform(); perform(); perform(); ";
        CHECK.sentence("fewer than 3 minutes: 3 are not", shows + "reel(0, 1) = 3; reel(0, 2) = 20; reel(0, 3) = 5; "
            + "reel(0, 5) = 4; reel(0, 0) = 0; count(3) = 0; barn(0, 3) = 1; barn(0, 6) = 0; count(12) = 5");
        CHECK.sentence("is gone for good (it is nowhere then)", shows + "show(0) = 0; nextDay(); show(0) = 0; nextDay(); "
            + "show(0) = 0; nextDay(); reel(0, 2) = 35; reel(0, 5) = 1; show(0) = 0; count(3) = 1; count(12) = 6; "
            + "reel(0, 0) = UNKNOWN; reel(0, 1) = UNKNOWN; reel(0, 6) = UNKNOWN; barn(0, 3) = 0; barn(0, 4) = 0; "
            + "barn(0, 5) = 0; barn(0, 6) = 1; count(2) = 10; renew(0) = UNKNOWN; moveReel(0, true) = UNKNOWN; "
            + "moveReel(0, false) = UNKNOWN; show(0) = NO_SHOW-1; nextDay(); show(0) = NO_SHOW-2; count(3) = 1; "
            + "route(-0) = NOT_POSSIBLE; stopped(1) = UNKNOWN; route(d,+0) = NOT_POSSIBLE; stopped(0) = 1; "
            + "undo() = 3; undo() = 2; reel(0, 1) = 3; count(3) = 0; count(12) = 5");
        CHECK.sentence("gone: the other reels of the show are not", shows + "moveReel(1, false); perform(); count(3) = 1; "
            + "reel(0, 1) = UNKNOWN; reel(1, 1) = 9; reel(1, 2) = 20; barn(0, 3) = 1; barn(0, 4) = 9; showOf(0, 4) = 12; "
            + "show(0) = 0; showOf(0, 4) = 9");
        CHECK.sentence("3 minutes, and renewed", shows + "route(-1,-2,-3,-4,+0) = 5; renew(0) = 8; reel(0, 5) = 28; "
            + "reel(0, 3) = 0; reel(0, 2) = 0; count(12) = 5; count(3) = 0");
    }

    private static void costs() {
        CHECK.sentence("1 coin for each 5 minutes", "fuel(0, 5) = 65; count(6) = 1; fuel(0, 10) = 75; count(6) = 3; "
            + "fuel(1, 440) = 500; count(6) = 91; count(8) = -91");
        CHECK.sentence("minutes are told as multiples of 5", "fuel(0, 4) = BAD_VALUE; fuel(0, 6) = BAD_VALUE; "
            + "fuel(0, 1) = BAD_VALUE; fuel(0, 9) = BAD_VALUE; fuel(0, 499) = BAD_VALUE; fuel(0, 439) = BAD_VALUE; "
            + "count(6) = 0");
        CHECK.sentence("Fuel is bought for a generator in the van", "route(g0) = 1; fuel(0, 5) = NOT_POSSIBLE; "
            + "route(v1) = 1; fuel(0, 5) = NOT_POSSIBLE; fuel(1, 5) = 65; route(f0:5) = NOT_POSSIBLE; "
            + "stopped(1) = NOT_POSSIBLE");
        CHECK.sentence("A reel in the van can be renewed for 30 coins", "route(-3) = 1; renew(3) = NOT_POSSIBLE; "
            + "route(v1) = 1; renew(3) = NOT_POSSIBLE; count(7) = 0; renew(4) = 12; renew(4) = 12; count(7) = 60; "
            + "count(8) = -68; count(13) = 4");
        CHECK.sentence("as many minutes as at first then, no wear, and was played in no barn", ROOM
            + "route(v2,-4,g0,s,d,s,d,s,d,s,d,s,d,s); reel(4, 1) = 11; reel(4, 2) = 22; reel(4, 3) = 1; reel(4, 4) = 4; "
            + "moveReel(4, true); renew(4) = 12; reel(4, 1) = 12; reel(4, 2) = 0; reel(4, 3) = 0; reel(4, 4) = 0; "
            + "reel(4, 5) = 44; count(12) = 1");
        CHECK.sentence("Coins may be below 0", "renew(0) = 8; count(8) = -30; drive(4) = 45; fuel(0, 440) = 500; "
            + "count(8) = -163; route(-0,g0,s) = 3; count(8) = -43; count(4) = 120");
        CHECK.sentence("the takings less the costs", ROOM + "setPrice(99); route(-0,g0,s) = 3; count(4) = 4950; "
            + "renew(1); count(8) = 4806; count(5) = 26; count(6) = 88; count(7) = 30");
    }

    private static void history() {
        CHECK.sentence("A history of at most 4 states is kept", "count(13) = 0; undo() = NONE; nextDay(); count(13) = 1; "
            + "nextDay(); count(13) = 2; nextDay(); count(13) = 3; nextDay(); count(13) = 4; nextDay(); count(13) = 4; "
            + "undo() = 3; count(0) = 4; undo() = 2; count(0) = 3; undo() = 1; count(0) = 2; undo() = 0; count(0) = 1; "
            + "undo() = NONE; count(0) = 1; count(13) = 0");
        CHECK.sentence("just 4 states are kept", "nextDay(); nextDay(); nextDay(); nextDay(); undo() = 3; undo() = 2; "
            + "undo() = 1; undo() = 0; count(0) = 0; undo() = NONE; nextDay() = 1; count(13) = 1");
        CHECK.sentence("when one more is recorded, the oldest one is dropped", "drive(1); nextDay(); setPrice(9); "
            + "moveReel(0, false); fuel(0, 5); renew(1); undo() = 3; count(7) = 0; undo() = 2; count(6) = 0; "
            + "undo() = 1; count(2) = 12; undo() = 0; count(11) = 4; count(0) = 1; count(1) = 1; undo() = NONE");
        String round = "nextDay(); nextDay(); nextDay(); undo() = 3; undo() = 2; ";
        CHECK.sentence("undo() removes and restores the latest one, round and round", "nextDay(); nextDay(); nextDay(); "
            + round + "nextDay(); " + round + "nextDay(); " + round + "count(0) = 8; undo() = 1; count(0) = 7; "
            + "undo() = 0; count(0) = 6; undo() = NONE");
        CHECK.sentence("and returns no error and not NONE", "drive(0) = NONE; drive(9) = UNKNOWN; moveReel(0, true) = NONE; "
            + "moveGenerator(0, true) = NONE; fuel(0, 1) = BAD_VALUE; renew(99) = UNKNOWN; setPrice(4) = NONE; "
            + "show(0) = NO_SHOW-2; perform() = FAULT; restore() = NONE; route(s) = NOT_POSSIBLE; count(13) = 0");
        CHECK.sentence("a method that is described as an act: the others are none", "type(100) = 1; clearText() = 1; "
            + "stopped(0) = NONE; undo() = NONE; keep() = 0; reel(0, 1) = 8; generator(0, 1) = 60; barn(0, 1) = 40; "
            + "bestBarn() = NONE; ifPrice(0, 1) = 0; showOf(0, 0) = NONE; count(13) = 0");
    }

    private static void snapshot() {
        CHECK.sentence("There is one snapshot, empty at first", "restore() = NONE; nextDay(); restore() = NONE; "
            + "keep() = 1; nextDay(); keep() = 2; nextDay(); restore() = 2; restore() = 2; count(13) = 4");
    }

    private static void state() {
        CHECK.sentence("A state is everything but the text", "route(d) = 1; keep() = 1; more(,v1); perform() = 2; "
            + "undo() = 1; count(14) = 4; restore() = 1; count(14) = 4; clearText() = 4; undo() = 1; count(14) = 0");
        CHECK.sentence("A state is everything but the history", "nextDay(); keep(); nextDay(); restore() = 1; "
            + "count(13) = 3; undo() = 2; count(0) = 2; undo() = 1; undo() = 0; count(0) = 0; restore() = 1; count(13) = 1");
        CHECK.sentence("A state is everything but the snapshot", "nextDay(); keep() = 1; undo() = 0; count(0) = 0; "
            + "restore() = 1; undo() = 0; restore() = 1");
        CHECK.sentence("A state is everything but the latest stop", "nextDay(); keep(); route(s) = NOT_POSSIBLE; "
            + "undo() = 0; stopped(0) = 0; stopped(1) = NO_SHOW-2; restore() = 1; stopped(0) = 0; stopped(1) = NO_SHOW-2");
    }
}
