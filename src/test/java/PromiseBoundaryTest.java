/** The boundaries that "ERRORS" and the promises 1 to 9 and 14 to 23 name, sentence by sentence. */
public final class PromiseBoundaryTest {
    private static final Check CHECK = new Check();
    /** The van has 7 things then. */
    private static final String PUT = "route(-0,-1,-2,-3,g0); ";
    /** The reel 0 is gone then. */
    private static final String GONE = "route(f0:300,-0,g0); route(s,d,s,d,s,d,s,d); " + "perform(); ".repeat(6);

    public static void main(String[] args) {
        orderOfErrors();
        newObject();
        drive();
        moveReel();
        moveGenerator();
        fuel();
        renew();
        setPrice();
        show();
        nextDay();
        undo();
        keepAndRestore();
        reel();
        showsBorne();
        generator();
        barn();
        bestBarn();
        ifPrice();
        showOf();
        count();
        CHECK.end();
    }

    private static void orderOfErrors() {
        CHECK.sentence("the order of the @return line: moveReel", "route(-0,v1) = 2; moveReel(0, true) = NOT_POSSIBLE; "
            + "moveReel(0, false) = NOT_POSSIBLE; moveReel(1, true) = NONE; route(v0) = 1; moveReel(0, false) = NONE; "
            + "moveReel(0, true) = FULL; moveReel(10, true) = UNKNOWN");
        CHECK.sentence("the order of the @return line: moveGenerator", "route(g0,v1) = 2; "
            + "moveGenerator(0, true) = NOT_POSSIBLE; moveGenerator(0, false) = NOT_POSSIBLE; "
            + "moveGenerator(1, true) = NONE; route(v0) = 1; moveGenerator(0, false) = NONE; "
            + "moveGenerator(0, true) = FULL; moveGenerator(2, true) = UNKNOWN");
        CHECK.sentence("the order of the @return line: fuel", "fuel(2, 4) = UNKNOWN; fuel(-1, 505) = UNKNOWN; route(g0) = 1; "
            + "fuel(0, 4) = BAD_VALUE; fuel(0, 505) = BAD_VALUE; fuel(0, 500) = NOT_POSSIBLE; fuel(1, 500) = FULL; "
            + "fuel(1, 501) = BAD_VALUE");
        CHECK.sentence("the order of the @return line: renew, reel", GONE + "renew(0) = UNKNOWN; reel(0, 6) = UNKNOWN; "
            + "reel(0, -1) = UNKNOWN; reel(10, 6) = UNKNOWN; reel(1, 6) = BAD_VALUE");
        CHECK.sentence("the order of the @return line: what is told", "generator(2, 2) = UNKNOWN; "
            + "generator(1, 2) = BAD_VALUE; barn(5, 9) = UNKNOWN; barn(4, 9) = BAD_VALUE; ifPrice(5, 0) = UNKNOWN; "
            + "ifPrice(4, 0) = BAD_VALUE; showOf(-1, 5) = BAD_VALUE; showOf(0, 5) = BAD_VALUE; showOf(-1, 0) = BAD_VALUE; "
            + "showOf(0, 0) = NONE; stopped(2) = BAD_VALUE; stopped(1) = NONE");
        CHECK.sentence("NO_SHOW: this minus the reason is returned", "show(0) = -10000012; route(-0) = 1; "
            + "show(0) = -10000013; route(-2,-4,-5,-9,-1,g0) = 6; show(0) = -10000014; fuel(1, 10) = 70; "
            + "moveGenerator(1, false) = 4; show(0) = 160; show(0) = -10000011");
    }

    private static void newObject() {
        CHECK.sentence("Creates a show on the day 0, with all things in the van", "count(0) = 0; count(1) = 0; count(2) = 12; "
            + "count(3) = 0; count(4) = 0; count(5) = 0; count(6) = 0; count(7) = 0; count(8) = 0; count(9) = 0; "
            + "count(10) = 0; count(11) = 4; count(12) = 0; count(13) = 0; count(14) = 0; bestBarn() = NONE; "
            + "showOf(0, 0) = NONE; undo() = NONE; restore() = NONE; stopped(0) = NONE; clearText() = 0; "
            + "perform() = FAULT");
        for (int reel = 0; reel < 10; reel++) {
            CHECK.sentence("a new reel", String.format("reel(%1$d, 0) = NONE; reel(%1$d, 1) = %2$d; reel(%1$d, 2) = 0; "
                + "reel(%1$d, 3) = 0; reel(%1$d, 4) = 0; reel(%1$d, 5) = %3$d", reel, 8 + reel, 28 + 4 * reel));
        }
        for (int barn = 0; barn < 5; barn++) {
            CHECK.sentence("a new barn", String.format("barn(%1$d, 3) = 0; barn(%1$d, 4) = 0; barn(%1$d, 5) = 0; "
                + "barn(%1$d, 6) = 2; barn(%1$d, 7) = 0; barn(%1$d, 8) = 0; ifPrice(%1$d, 99) = 0", barn));
        }
    }

    private static void drive() {
        CHECK.sentence("drive: the miles; UNKNOWN; NONE if it is there already", "drive(0) = NONE; drive(5) = UNKNOWN; "
            + "drive(-1) = UNKNOWN; drive(4) = 45; drive(4) = NONE; drive(5) = UNKNOWN; count(1) = 4; count(5) = 45; "
            + "drive(0) = 45; count(5) = 90; undo() = 1; count(5) = 45; count(1) = 4; undo() = 0; count(5) = 0; "
            + "count(1) = 0; drive(0) = NONE");
    }

    private static void moveReel() {
        CHECK.sentence("moveReel: how many things are in the van then", PUT + "count(2) = 7; moveReel(0, true) = 8; "
            + "moveReel(1, true) = FULL; moveReel(0, true) = NONE; moveReel(0, false) = 7; moveReel(0, false) = NONE; "
            + "moveReel(9, false) = 6; moveReel(3, true) = 7; moveReel(1, true) = 8; moveReel(2, true) = FULL");
        CHECK.sentence("moveReel: NONE if it is so already", "moveReel(5, true) = NONE; count(13) = 0; moveReel(5, false) = 11; "
            + "moveReel(5, false) = NONE; count(13) = 1; undo() = 0; reel(5, 0) = NONE; moveReel(5, true) = NONE");
        CHECK.sentence("moveReel: a reel that is not gone", GONE + "moveReel(0, true) = UNKNOWN; moveReel(0, false) = UNKNOWN; "
            + "count(2) = 10; barn(0, 3) = 0; undo() = 3; moveReel(0, false) = NONE; moveReel(0, true) = FULL");
    }

    private static void moveGenerator() {
        CHECK.sentence("moveGenerator: Returns as for moveReel()", PUT + "moveGenerator(0, false) = NONE; "
            + "moveGenerator(0, true) = 8; moveGenerator(0, true) = NONE; moveReel(0, true) = FULL; "
            + "moveGenerator(1, false) = 7; moveReel(0, true) = 8; moveGenerator(1, true) = FULL; drive(2) = 20; "
            + "moveGenerator(1, true) = NOT_POSSIBLE; moveGenerator(1, false) = NOT_POSSIBLE; "
            + "moveGenerator(0, false) = 7; generator(0, 0) = 2; generator(1, 0) = 0");
    }

    private static void fuel() {
        CHECK.sentence("fuel: 5 to 500, a multiple of 5", "fuel(0, 0) = BAD_VALUE; fuel(0, -5) = BAD_VALUE; "
            + "fuel(0, 4) = BAD_VALUE; fuel(0, 6) = BAD_VALUE; fuel(0, 501) = BAD_VALUE; fuel(0, 505) = BAD_VALUE; "
            + "fuel(0, 499) = BAD_VALUE; fuel(0, MIN) = BAD_VALUE; fuel(0, MAX) = BAD_VALUE; "
            + "fuel(0, 2147483645) = BAD_VALUE; fuel(0, -2147483645) = BAD_VALUE; fuel(0, 500) = FULL; fuel(0, 5) = 65; "
            + "count(6) = 1; count(13) = 1");
        CHECK.sentence("fuel: FULL if it would have more than 500", "fuel(1, 440) = 500; fuel(1, 5) = FULL; undo() = 0; "
            + "fuel(1, 445) = FULL; fuel(1, 435) = 495; fuel(1, 10) = FULL; fuel(1, 5) = 500; count(6) = 88; "
            + "generator(0, 1) = 60");
        // A tank may hold what is no multiple of 5: 47 minutes are burnt of 60.
        CHECK.sentence("fuel: 498 and 503 minutes", "route(-0,-4,-5,-6,g0,s,g0) = 7; generator(0, 1) = 13; "
            + "fuel(0, 490) = FULL; fuel(0, 485) = 498; fuel(0, 5) = FULL; generator(0, 1) = 498; count(6) = 97");
    }

    private static void renew() {
        CHECK.sentence("renew: a reel that is not gone", GONE + "renew(0) = UNKNOWN; count(7) = 0; renew(1) = 9; count(7) = 30");
        CHECK.sentence("renew: NOT_POSSIBLE if it is not in the van", "route(-0,v1,-1) = 3; renew(0) = NOT_POSSIBLE; "
            + "renew(1) = NOT_POSSIBLE; renew(2) = 10; renew(-1) = UNKNOWN; renew(10) = UNKNOWN; count(7) = 30; "
            + "undo() = 1; count(7) = 0");
        CHECK.sentence("renew: Returns its minutes then", "renew(0) = 8; renew(9) = 17; renew(9) = 17; count(7) = 90; "
            + "count(13) = 3; reel(9, 3) = 0");
    }

    private static void setPrice() {
        CHECK.sentence("setPrice: 1 to 99; BAD_VALUE; NONE if it is so already", "setPrice(0) = BAD_VALUE; "
            + "setPrice(100) = BAD_VALUE; setPrice(4) = NONE; count(13) = 0; setPrice(1) = 4; setPrice(1) = NONE; "
            + "setPrice(0) = BAD_VALUE; setPrice(99) = 1; setPrice(99) = NONE; setPrice(100) = BAD_VALUE; "
            + "setPrice(MIN) = BAD_VALUE; setPrice(MAX) = BAD_VALUE; count(11) = 99; count(13) = 2; undo() = 1; "
            + "count(11) = 1; undo() = 0; count(11) = 4; setPrice(4) = NONE");
    }

    private static void show() {
        CHECK.sentence("show: the van need not be there", "route(-0,g0,v4) = 3; show(0) = 160; count(1) = 4; count(5) = 45; "
            + "show(4) = NO_SHOW-2; show(5) = UNKNOWN; show(-1) = UNKNOWN");
        CHECK.sentence("show: takings of 0 are no error", "route(-0,g0,s,d) = 4; show(0) = 0; count(13) = 2; count(9) = 2; "
            + "undo() = 1; count(9) = 1; generator(0, 1) = 52");
        CHECK.sentence("show: the most that it can bring", "route(v2,-0,g0) = 3; setPrice(99) = 4; show(2) = 7920; "
            + "count(8) = 7900");
        CHECK.sentence("show: all reels that are in the barn", "route(f0:440,-0,-1,-2,-3,-4,-5,-6,-7,-8,-9,g0,s) = 13; "
            + "generator(0, 1) = 375; showOf(0, 4) = 125; reel(0, 2) = 5; reel(9, 2) = 5; reel(9, 4) = 1; show(0) = NO_SHOW-1");
    }

    private static void nextDay() {
        CHECK.sentence("nextDay: FULL if it would be beyond 9999", "text(" + "d,".repeat(38) + "d); perform(); more(,d); "
            + "perform(); ".repeat(249) + "nextDay() = FULL; count(0) = 9999; undo() = 3; count(0) = 9959; nextDay() = 9960");
        CHECK.sentence("nextDay: 9998 and 9999", "text(" + "d,".repeat(37) + "d); perform(); more(,d,d); "
            + "perform(); ".repeat(249) + "count(0) = 9998; nextDay() = 9999; nextDay() = FULL; keep() = 9999; "
            + "undo() = 3; restore() = 9999; nextDay() = FULL; count(0) = 9999");
        CHECK.sentence("nextDay: Returns the day then", "nextDay() = 1; nextDay() = 2; count(0) = 2; undo() = 1; "
            + "count(0) = 1; nextDay() = 2");
    }

    private static void undo() {
        CHECK.sentence("undo: the number of states that are left; NONE if the history is empty", "undo() = NONE; nextDay(); "
            + "undo() = 0; count(0) = 0; undo() = NONE; nextDay(); nextDay(); nextDay(); nextDay(); nextDay(); nextDay(); "
            + "count(13) = 4; undo() = 3; undo() = 2; undo() = 1; undo() = 0; undo() = NONE; count(0) = 2; count(13) = 0");
    }

    private static void keepAndRestore() {
        CHECK.sentence("keep: Takes a snapshot of the state, in place of the one that was", "restore() = NONE; keep() = 0; "
            + "route(d,v1,-1) = 3; keep() = 1; restore() = 1; reel(1, 0) = 1; undo() = 1; undo() = 0; restore() = 1; "
            + "count(1) = 1; undo() = 0; count(1) = 0; keep() = 0; restore() = 0; count(1) = 0");
        CHECK.sentence("restore: the snapshot, which stays. This is an act", "keep() = 0; restore() = 0; count(13) = 1; "
            + "restore() = 0; count(13) = 2; nextDay() = 1; restore() = 0; count(13) = 4; restore() = 0; count(13) = 4; "
            + "undo() = 3; count(0) = 0; undo() = 2; count(0) = 1; restore() = 0");
        CHECK.sentence("restore: the day then; NONE if there is no snapshot", "nextDay(); restore() = NONE; count(0) = 1; "
            + "count(13) = 1; keep() = 1; nextDay(); nextDay(); restore() = 1; count(0) = 1; nextDay() = 2; restore() = 1");
        CHECK.sentence("restore: a barn that had a show on the day kept", "route(-0,g0,s) = 3; keep() = 0; nextDay(); "
            + "show(0) = 0; restore() = 0; show(0) = NO_SHOW-1; undo() = 3; show(0) = NO_SHOW-1; undo() = 2; "
            + "count(9) = 1; show(0) = 0");
        CHECK.sentence("restore: a reel that is gone now", "keep(); " + GONE + "count(3) = 1; restore() = 0; count(3) = 0; "
            + "reel(0, 1) = 8; moveReel(0, true) = NONE; undo() = 3; count(3) = 1; reel(0, 1) = UNKNOWN");
    }

    private static void reel() {
        CHECK.sentence("reel: what, 0 to 5", "reel(0, -1) = BAD_VALUE; reel(0, 6) = BAD_VALUE; reel(0, MIN) = BAD_VALUE; "
            + "reel(0, MAX) = BAD_VALUE; reel(9, 0) = NONE; reel(9, 5) = 64; reel(-1, 0) = UNKNOWN; reel(10, 5) = UNKNOWN; "
            + "reel(10, 6) = UNKNOWN; reel(-1, -1) = UNKNOWN");
        CHECK.sentence("reel: 0 for its barn (NONE if it is in the van)", "reel(3, 0) = NONE; moveReel(3, false) = 11; "
            + "reel(3, 0) = 0; route(v4,-4) = 2; reel(4, 0) = 4; reel(3, 0) = 0; reel(5, 0) = NONE");
        CHECK.sentence("reel: 4 for the barns in which it was played (as bits)", "route(f0:400,v3,-5,-6,-7,-8,-9); "
            + "route(v0,-0,g0,s,+0,g0,v4,-0,g0,s,+0,g0) = 12; reel(0, 4) = 17; route(v3,-0,g0) = 3; reel(0, 4) = 17; "
            + "route(+0,g0,v1,-0,g0,s,+0,g0,v2,-0,g0,s) = 12; reel(0, 4) = 23; route(+0,v3,-0) = 3; reel(0, 4) = 23; "
            + "route(+0,v2,g0,v3,-0,g0,s) = 7; reel(0, 4) = 31; reel(5, 4) = 8; reel(1, 4) = 0");
        CHECK.sentence("reel: 3 for its splices so far (since it was renewed)", "route(f0:400,-0,-1,-2,-3,-4,g0); "
            + "route(s,d,s,d,s,d,s,d); perform(); reel(4, 3) = 1; reel(4, 2) = 20; moveReel(4, true) = 7; reel(4, 3) = 1; "
            + "reel(4, 4) = 1; renew(4) = 12; reel(4, 3) = 0; count(12) = 5; reel(3, 3) = 1");
    }

    private static void showsBorne() {
        CHECK.sentence("reel: 5 for how many more shows it bears, until one makes it gone (that one counted)",
            "route(f0:300,-0,g0); reel(0, 5) = 28; route(s,d,s,d,s,d,s,d); reel(0, 5) = 24; perform(); reel(0, 5) = 20; "
            + "perform(); perform(); perform(); perform(); reel(0, 5) = 4; reel(0, 1) = 3; show(0); nextDay(); "
            + "reel(0, 5) = 3; show(0); nextDay(); reel(0, 5) = 2; show(0); nextDay(); reel(0, 5) = 1; show(0); "
            + "reel(0, 5) = UNKNOWN");
        CHECK.sentence("shows in barns without roughness: worn by 7 or 14", "route(v2,-0,g0,s); reel(0, 5) = 27; "
            + "route(d,s); reel(0, 2) = 14; reel(0, 5) = 26");
        String worn = "route(f0:200,v3,-5,-6,-7,-8,-9,v1,-0,g0,s,d,s,d,s,+0,g0,v2,-0,g0,s,d); ";
        CHECK.sentence("shows in barns without roughness: worn by 25, 32 or 39", worn + "reel(0, 2) = 25; reel(0, 5) = 23; "
            + "route(s,d); reel(0, 2) = 32; reel(0, 5) = 22; perform(); reel(0, 2) = 39; reel(0, 5) = 21; perform(); "
            + "reel(0, 2) = 26; reel(0, 1) = 7; reel(0, 5) = 19");
        CHECK.sentence("shows in barns without roughness: of each reel", "reel(0, 5) = 28; reel(4, 5) = 44; reel(9, 5) = 64");
    }

    private static void generator() {
        CHECK.sentence("generator: what, 0 or 1", "generator(0, -1) = BAD_VALUE; generator(0, 2) = BAD_VALUE; "
            + "generator(1, MIN) = BAD_VALUE; generator(1, MAX) = BAD_VALUE; generator(1, 0) = NONE; "
            + "generator(1, 1) = 60; generator(-1, 0) = UNKNOWN; generator(2, 1) = UNKNOWN; generator(2, 2) = UNKNOWN");
        CHECK.sentence("generator: 0 for its barn (NONE if it is in the van)", "route(g0,v4,g1) = 3; generator(0, 0) = 0; "
            + "generator(1, 0) = 4; undo() = 0; generator(0, 0) = NONE; generator(1, 0) = NONE");
    }

    private static void barn() {
        CHECK.sentence("barn: what, 0 to 8", "barn(0, -1) = BAD_VALUE; barn(0, 9) = BAD_VALUE; barn(4, MIN) = BAD_VALUE; "
            + "barn(4, MAX) = BAD_VALUE; barn(4, 0) = 45; barn(4, 8) = 0; barn(-1, 0) = UNKNOWN; barn(5, 8) = UNKNOWN; "
            + "barn(5, 9) = UNKNOWN; barn(-1, -1) = UNKNOWN");
        CHECK.sentence("barn: 3 for its reels, 4 for their minutes together", "barn(0, 3) = 0; barn(0, 4) = 0; "
            + "route(-9) = 1; barn(0, 3) = 1; barn(0, 4) = 17; route(-0,-1,-2,-3,-4,-5,-6,-7,-8) = 9; barn(0, 3) = 10; "
            + "barn(0, 4) = 125; barn(1, 3) = 0");
        CHECK.sentence("barn: 5, whether it can be or not; 0 without reels", "barn(3, 5) = 0; route(v3,g0) = 2; "
            + "barn(3, 5) = 0; moveGenerator(1, false) = 10; route(v0,-0) = 2; barn(0, 6) = 3; barn(0, 5) = 40; "
            + "route(v3,-4,s,-5) = 4; barn(3, 6) = 1; barn(3, 5) = 25; barn(4, 5) = 0");
        CHECK.sentence("barn: 6 for the reason for which a show cannot be (0 if it can)", "barn(0, 6) = 2; route(-0) = 1; "
            + "barn(0, 6) = 3; route(-2,-4,-5,-9,-1,g0) = 6; barn(0, 6) = 4; moveReel(1, true) = 6; barn(0, 6) = 0; "
            + "show(0) = 160; barn(0, 6) = 1; nextDay(); barn(0, 6) = 4");
        CHECK.sentence("barn: 7 for its shows so far, 8 for its takings so far", "route(-0,g0,s,v4,-1,g1,s) = 7; "
            + "barn(0, 7) = 1; barn(0, 8) = 160; barn(4, 7) = 1; barn(4, 8) = 120; nextDay(); show(0) = 0; barn(0, 7) = 2; "
            + "barn(0, 8) = 160; barn(4, 7) = 1; barn(1, 7) = 0; barn(1, 8) = 0; undo() = 2; barn(0, 7) = 1");
    }

    private static void bestBarn() {
        CHECK.sentence("bestBarn: NONE if none can", "bestBarn() = NONE; route(-0) = 1; bestBarn() = NONE; route(v1,g0) = 2; "
            + "bestBarn() = NONE; moveReel(9, false) = 9; bestBarn() = 1; show(1) = 240; bestBarn() = NONE; "
            + "nextDay(); bestBarn() = 1; route(-8,-7,-6) = 3; barn(1, 4) = 62; bestBarn() = NONE");
        CHECK.sentence("bestBarn: the most, the last barn", "route(-0,g0,s,d,v4,-1,g1) = 7; barn(0, 5) = 0; bestBarn() = 4; "
            + "show(4) = 120; bestBarn() = 0; show(0) = 0; bestBarn() = NONE");
        CHECK.sentence("bestBarn: the most, the first barn", "route(-0,g0,v4,-1,g1) = 5; bestBarn() = 0; undo() = 0; "
            + "bestBarn() = NONE");
        String tie = "route(f1:40,v1,-1,g1,s,d,-2,-3,v0,-0,g0); barn(0, 5) = 40; barn(1, 5) = 40; ";
        CHECK.sentence("bestBarn: of several the lowest", tie + "bestBarn() = 0; show(0) = 160; bestBarn() = 1; "
            + "show(1) = 160; bestBarn() = NONE");
        CHECK.sentence("bestBarn: 1 more is more", tie + "setPrice(1); route(d,v1,-4) = 3; barn(1, 5) = 45; bestBarn() = 1");
        CHECK.sentence("bestBarn: several that would bring nothing", "route(v3,-0,g0,v4,-1,g1) = 6; show(4); show(3); "
            + "nextDay(); barn(3, 5) = 0; barn(4, 5) = 0; bestBarn() = 3; show(3) = 0; bestBarn() = 4; show(4) = 0; "
            + "bestBarn() = NONE");
    }

    private static void ifPrice() {
        CHECK.sentence("ifPrice: price, 1 to 99", "route(v2,-0) = 2; ifPrice(2, 0) = BAD_VALUE; ifPrice(2, 100) = BAD_VALUE; "
            + "ifPrice(2, -1) = BAD_VALUE; ifPrice(2, MIN) = BAD_VALUE; ifPrice(2, MAX) = BAD_VALUE; ifPrice(2, 1) = 80; "
            + "ifPrice(2, 99) = 7920; ifPrice(2, 4) = 320; ifPrice(5, 0) = UNKNOWN; ifPrice(-1, 100) = UNKNOWN; "
            + "count(11) = 4");
        CHECK.sentence("ifPrice: whether it can be or not", "ifPrice(0, 10) = 0; route(-0) = 1; barn(0, 6) = 3; "
            + "ifPrice(0, 10) = 400; route(-2,-4,-5,-9,-1,g0) = 6; barn(0, 6) = 4; ifPrice(0, 10) = 400; "
            + "route(+1,s,-1) = 3; barn(0, 6) = 1; ifPrice(0, 10) = 60");
    }

    private static void showOf() {
        CHECK.sentence("showOf: back is negative, or what; NONE if there is none", "showOf(0, 0) = NONE; showOf(0, 4) = NONE; "
            + "showOf(0, 5) = BAD_VALUE; showOf(0, -1) = BAD_VALUE; showOf(-1, 0) = BAD_VALUE; showOf(MIN, 0) = BAD_VALUE; "
            + "showOf(MAX, 0) = NONE; showOf(MAX, 4) = NONE; showOf(MAX, 5) = BAD_VALUE; showOf(0, MIN) = BAD_VALUE; "
            + "showOf(0, MAX) = BAD_VALUE; showOf(-1, 5) = BAD_VALUE; showOf(858993460, 0) = NONE; route(-0,g0,s) = 3; "
            + "showOf(0, 0) = 0; showOf(0, 4) = 8; showOf(1, 0) = NONE; showOf(0, 5) = BAD_VALUE; showOf(1, 5) = BAD_VALUE; "
            + "showOf(858993460, 0) = NONE; showOf(429496730, 0) = NONE; undo() = 0; showOf(0, 0) = NONE");
        String five = "route(f0:200,-9,g0,s,d,s,d,s,d,s,d,s,d); ";
        CHECK.sentence("the latest 6 shows: 5, 6, 7", five + "showOf(4, 0) = 0; showOf(5, 0) = NONE; show(0) = 0; "
            + "showOf(5, 0) = 0; showOf(5, 3) = 160; showOf(0, 0) = 5; showOf(6, 0) = NONE; nextDay(); show(0) = 0; "
            + "showOf(5, 0) = 1; showOf(5, 3) = 0; showOf(0, 0) = 6; showOf(6, 0) = NONE; undo() = 3; showOf(5, 0) = 0; "
            + "showOf(0, 0) = 5; undo() = 2; undo() = 1; showOf(5, 0) = NONE");
        CHECK.sentence("the latest 6 shows: 12 and 13", five + "text(s,d); " + "perform(); ".repeat(7) + "showOf(0, 0) = 11; "
            + "showOf(5, 0) = 6; showOf(6, 0) = NONE; show(0) = 0; showOf(0, 0) = 12; showOf(1, 0) = 11; showOf(5, 0) = 7; "
            + "showOf(0, 4) = 15; showOf(1, 4) = 16; showOf(4, 4) = 16; showOf(5, 4) = 17; showOf(6, 4) = NONE");
        CHECK.sentence("showOf: its day, barn, people, takings and minutes", "route(d,d,v3,-1,-2,g1) = 6; setPrice(7); "
            + "show(3) = 350; showOf(0, 0) = 2; showOf(0, 1) = 3; showOf(0, 2) = 50; showOf(0, 3) = 350; showOf(0, 4) = 19");
    }

    private static void count() {
        CHECK.sentence("count: what, 0 to 14", "count(-1) = BAD_VALUE; count(15) = BAD_VALUE; count(MIN) = BAD_VALUE; "
            + "count(MAX) = BAD_VALUE; count(0) = 0; count(14) = 0");
        CHECK.sentence("count: each of them", "setPrice(10); route(f0:200,f1:15,v1,-5,-6,g0,s,d,v3,-7,g1,s); renew(1); "
            + "text(+1,); count(0) = 1; count(1) = 3; count(2) = 7; count(3) = 0; count(4) = 1100; count(5) = 26; "
            + "count(6) = 43; count(7) = 30; count(8) = 1001; count(9) = 2; count(10) = 110; count(11) = 10; count(12) = 0; "
            + "count(13) = 3; count(14) = 3");
        CHECK.sentence("count: 3 for reels that are gone: all of a show", "route(f0:440,f1:440,-0,-1,g0,g1); "
            + "route(s,d,s,d,s,d,s,d); " + "perform(); ".repeat(6) + "count(3) = 1; count(12) = 12; barn(0, 3) = 1; perform(); "
            + "count(3) = 2; count(12) = 13; barn(0, 3) = 0; count(2) = 8; undo() = 3; count(3) = 1; count(12) = 12");
        CHECK.sentence("count: 12 for splices so far (of all reels ever)", "route(f0:440,-0,-1,-2,-3,-4,g0); "
            + "route(s,d,s,d,s,d,s,d); perform(); count(12) = 5; moveReel(0, true) = 7; renew(0) = 8; count(12) = 5; "
            + "undo() = 3; count(12) = 5; undo() = 2; undo() = 1; count(12) = 0");
        CHECK.sentence("count: accounts add up", "route(f0:40,v2,-0,g0,s,d,s) = 7; renew(5); count(4) = 320; count(5) = 20; "
            + "count(6) = 8; count(7) = 30; count(8) = 262; undo() = 1; count(8) = 292; undo() = 0; count(8) = 0");
    }
}
