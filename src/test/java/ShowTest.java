/** Promises 7 to 9: setPrice, show, nextDay. */
public final class ShowTest {
    private static final Check CHECK = new Check();

    public static void main(String[] args) {
        setPrice();
        reasons();
        firstReasonThatHolds();
        justEnoughFuel();
        lowestGeneratorThatHasEnough();
        people();
        peopleAreNeverBelowZero();
        wearAndSplices();
        takings();
        showElsewhere();
        nextDay();
        lastDay();
        CHECK.end();
    }

    private static void setPrice() {
        BarnPictures x = new BarnPictures();
        int[] bad = {0, -1, 100, Integer.MIN_VALUE, Integer.MAX_VALUE};
        for (int coins : bad) {
            CHECK.due("setPrice(" + coins + ")", x.setPrice(coins), BarnPictures.BAD_VALUE);
        }
        CHECK.due("setPrice(4)", x.setPrice(4), BarnPictures.NONE);
        CHECK.due("no state", x.count(13), 0);
        CHECK.due("setPrice(1)", x.setPrice(1), 4);
        CHECK.due("setPrice(99)", x.setPrice(99), 1);
        CHECK.due("price", x.count(11), 99);
        CHECK.due("states", x.count(13), 2);
        x.undo();
        CHECK.due("price after undo", x.count(11), 1);
    }

    private static void reasons() {
        BarnPictures x = new BarnPictures();
        CHECK.due("show(-1)", x.show(-1), BarnPictures.UNKNOWN);
        CHECK.due("show(5)", x.show(5), BarnPictures.UNKNOWN);
        CHECK.due("no reel", x.show(0), -10000012);
        x.moveReel(0, false);
        CHECK.due("no generator", x.show(0), -10000013);
        x.moveGenerator(1, false);
        for (int reel = 1; reel < 6; reel++) {
            x.moveReel(reel, false);
        }
        CHECK.due("63 minutes", x.barn(0, 4), 63);
        CHECK.due("60 minutes of fuel", x.show(0), -10000014);
        CHECK.due("told", x.barn(0, 6), 4);
        int states = x.count(13);
        CHECK.due("nothing is left of it", x.count(9) + x.reel(0, 2) + x.reel(0, 4), 0);
        CHECK.due("states", x.count(13), states);
        x.moveReel(0, true);
        CHECK.due("55 minutes", x.show(0), 160);
        CHECK.due("5 minutes of fuel are left", x.generator(1, 1), 5);
        CHECK.due("shown today", x.show(0), -10000011);
        CHECK.due("the next day", x.nextDay(), 1);
        CHECK.due("no fuel any more", x.show(0), -10000014);
    }

    private static void firstReasonThatHolds() {
        BarnPictures x = new BarnPictures();
        CHECK.through(x, "-0,-1,-2,-3,g0");
        CHECK.due("show", x.show(0), 160);
        CHECK.due("today ahead of fuel", x.barn(0, 6), 1);
        CHECK.through(x, "-4,g0");
        CHECK.due("today ahead of the generator", x.barn(0, 6), 1);
        CHECK.due("show", x.show(0), -10000011);
        x.nextDay();
        CHECK.due("the generator ahead of fuel", x.barn(0, 6), 3);
        CHECK.through(x, "-9,-8,+0,+1,+2,-7,-6,+3,+4");
        CHECK.due("van is full", x.count(2), 8);
        CHECK.through(x, "v1");
        CHECK.due("reels ahead of the generator", x.barn(1, 6), 2);
        CHECK.through(x, "g0");
        CHECK.due("reels, with a generator", x.barn(1, 6), 2);
    }

    private static void justEnoughFuel() {
        BarnPictures x = new BarnPictures();
        CHECK.through(x, "-2,-4,-5,-9,-1,g0,g1");
        CHECK.due("61 minutes", x.barn(0, 4), 61);
        CHECK.due("two generators do not add up", x.barn(0, 6), 4);
        CHECK.through(x, "+1,-0");
        CHECK.due("60 minutes", x.barn(0, 4), 60);
        CHECK.due("60 minutes of fuel do", x.show(0), 160);
        CHECK.due("the tank is empty", x.generator(0, 1), 0);
        CHECK.due("the other one is not used", x.generator(1, 1), 60);
    }

    private static void lowestGeneratorThatHasEnough() {
        BarnPictures x = new BarnPictures();
        CHECK.through(x, "f1:100,-0,-1,-2,-3,-4,-5,g0,g1");
        CHECK.due("show", x.show(0), 160);
        CHECK.due("the lower one has too little", x.generator(0, 1), 60);
        CHECK.due("the other one", x.generator(1, 1), 97);
        CHECK.through(x, "d,+0");
        CHECK.due("show", x.show(0), 0);
        CHECK.due("the lower one now", x.generator(0, 1), 5);
        CHECK.due("the other one rests", x.generator(1, 1), 97);
    }

    private static void people() {
        BarnPictures x = new BarnPictures();
        CHECK.through(x, "f0:400,v3,-0,g0");
        CHECK.due("all are fresh", x.barn(3, 5), 50);
        CHECK.due("show", x.show(3), 200);
        CHECK.through(x, "d,-1,-2");
        CHECK.due("2 of 3 are fresh", x.barn(3, 5), 33);
        CHECK.due("show", x.show(3), 132);
        CHECK.due("wear of the oldest", x.reel(0, 2), 10);
        CHECK.through(x, "d,-3,-4");
        CHECK.due("2 of 5 are fresh, 1 stays away", x.barn(3, 5), 19);
        CHECK.due("show", x.show(3), 76);
        CHECK.due("people so far", x.count(10), 102);
        CHECK.due("takings so far", x.count(4), 408);
        // Fresh is told of each barn by itself.
        CHECK.through(x, "d,g0,+0,v2,-0,g0");
        CHECK.due("fresh in another barn, but worn", x.barn(2, 5), 79);
        CHECK.due("show", x.show(2), 316);
        CHECK.due("played in 2 and 3", x.reel(0, 4), 12);
        CHECK.due("rough by 2", x.reel(0, 2), 22);
        CHECK.through(x, "g0,+0,-9,f0:5");
        x.renew(0);
        CHECK.through(x, "-0,d,g0");
        CHECK.due("fresh again when renewed", x.barn(2, 5), 80);
    }

    private static void peopleAreNeverBelowZero() {
        BarnPictures x = new BarnPictures();
        CHECK.through(x, "f0:400,-3,g0,s,d,s,d,s");
        CHECK.due("wear", x.reel(3, 2), 15);
        CHECK.due("nobody", x.barn(0, 5), 0);
        CHECK.due("takings so far", x.barn(0, 8), 160);
        CHECK.through(x, "d,-4");
        CHECK.due("half of them", x.barn(0, 5), 19);
    }

    private static void wearAndSplices() {
        BarnPictures x = new BarnPictures();
        CHECK.through(x, "f1:400,v2,-1,g1");
        int[] wears = {7, 14, 21, 28, 35, 22, 29, 36, 23, 30, 37, 24, 31, 38, 25};
        int minutes = 9;
        for (int show = 0; show < wears.length; show++) {
            if (show > 0 && wears[show] < wears[show - 1]) {
                minutes--;
            }
            CHECK.through(x, "s,d");
            CHECK.due("wear " + show, x.reel(1, 2), wears[show]);
            CHECK.due("minutes " + show, x.reel(1, 1), minutes);
            CHECK.due("splices " + show, x.reel(1, 3), 9 - minutes);
            CHECK.due("all splices " + show, x.count(12), 9 - minutes);
            CHECK.due("minutes in the barn " + show, x.barn(2, 4), minutes);
        }
        CHECK.due("another reel does not wear", x.reel(2, 2), 0);
    }

    private static void takings() {
        BarnPictures x = new BarnPictures();
        CHECK.through(x, "-0,g0");
        x.setPrice(99);
        CHECK.due("takings", x.show(0), 40 * 99);
        CHECK.due("of the barn", x.barn(0, 8), 40 * 99);
        CHECK.due("of all", x.count(4), 40 * 99);
        CHECK.due("what the show has", x.count(8), 40 * 99);
        CHECK.due("shows", x.count(9), 1);
        CHECK.due("shows of the barn", x.barn(0, 7), 1);
        CHECK.due("a state", x.count(13), 4 - 1);
        x.undo();
        CHECK.due("takings after undo", x.count(4), 0);
        CHECK.due("shows of the barn after undo", x.barn(0, 7), 0);
        CHECK.due("fuel after undo", x.generator(0, 1), 60);
        CHECK.due("log after undo", x.showOf(0, 0), BarnPictures.NONE);
    }

    private static void showElsewhere() {
        BarnPictures x = new BarnPictures();
        CHECK.through(x, "-0,g0,v1,-1,g1,v4");
        CHECK.due("the van is away", x.show(0), 160);
        CHECK.due("another barn on the same day", x.show(1), 240);
        CHECK.due("rough by 0", x.reel(0, 2), 5);
        CHECK.due("rough by 1", x.reel(1, 2), 6);
        CHECK.due("the van stays", x.count(1), 4);
    }

    private static void nextDay() {
        BarnPictures x = new BarnPictures();
        CHECK.due("nextDay()", x.nextDay(), 1);
        CHECK.due("nextDay()", x.nextDay(), 2);
        CHECK.due("day", x.count(0), 2);
        CHECK.due("states", x.count(13), 2);
        x.undo();
        CHECK.due("day after undo", x.count(0), 1);
        CHECK.through(x, "-0,g0,s");
        CHECK.due("shown today", x.barn(0, 6), 1);
        x.nextDay();
        CHECK.due("not yet today", x.barn(0, 6), 0);
    }

    private static void lastDay() {
        BarnPictures x = new BarnPictures();
        CHECK.through(x, "d,".repeat(38) + "d");
        for (int times = 1; times < 256; times++) {
            x.perform();
        }
        CHECK.due("day", x.count(0), 9984);
        CHECK.due("beyond the last day", x.perform(), BarnPictures.NOT_POSSIBLE);
        CHECK.due("stopped at", x.stopped(0), 15);
        CHECK.due("stopped by", x.stopped(1), BarnPictures.FULL);
        CHECK.due("all or none", x.count(0), 9984);
        CHECK.through(x, "d,".repeat(14) + "d");
        CHECK.due("the last day", x.count(0), 9999);
        CHECK.due("beyond it", x.nextDay(), BarnPictures.FULL);
        CHECK.due("the last day still", x.count(0), 9999);
        CHECK.due("states", x.count(13), 4);
    }
}
