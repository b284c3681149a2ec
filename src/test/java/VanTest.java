/** Promises 1 to 6: a new object, drive, moveReel, moveGenerator, fuel, renew. */
public final class VanTest {
    private static final Check CHECK = new Check();

    public static void main(String[] args) {
        newObject();
        drive();
        driveIsAnAct();
        moveReel();
        moveGenerator();
        roomInTheVan();
        goneReelIsUnknown();
        fuel();
        renew();
        CHECK.end();
    }

    private static void newObject() {
        BarnPictures x = new BarnPictures();
        int[] numbers = {0, 0, 12, 0, 0, 0, 0, 0, 0, 0, 0, 4, 0, 0, 0};
        for (int what = 0; what < numbers.length; what++) {
            CHECK.due("new count(" + what + ")", x.count(what), numbers[what]);
        }
        for (int reel = 0; reel < 10; reel++) {
            CHECK.due("new reel place", x.reel(reel, 0), BarnPictures.NONE);
            CHECK.due("new reel minutes", x.reel(reel, 1), 8 + reel);
            for (int what = 2; what < 5; what++) {
                CHECK.due("new reel(" + reel + ", " + what + ")", x.reel(reel, what), 0);
            }
        }
        for (int generator = 0; generator < 2; generator++) {
            CHECK.due("new generator place", x.generator(generator, 0), BarnPictures.NONE);
            CHECK.due("new generator fuel", x.generator(generator, 1), 60);
        }
        for (int barn = 0; barn < 5; barn++) {
            for (int what = 3; what < 9; what++) {
                int due = what == 6 ? 2 : 0;
                CHECK.due("new barn(" + barn + ", " + what + ")", x.barn(barn, what), due);
            }
        }
        CHECK.due("new showOf", x.showOf(0, 0), BarnPictures.NONE);
        CHECK.due("new undo", x.undo(), BarnPictures.NONE);
        CHECK.due("new restore", x.restore(), BarnPictures.NONE);
        CHECK.due("new stopped", x.stopped(0), BarnPictures.NONE);
        CHECK.due("new bestBarn", x.bestBarn(), BarnPictures.NONE);
        CHECK.due("new clearText", x.clearText(), 0);
    }

    private static void drive() {
        BarnPictures x = new BarnPictures();
        CHECK.due("drive to where it is", x.drive(0), BarnPictures.NONE);
        CHECK.due("drive(-1)", x.drive(-1), BarnPictures.UNKNOWN);
        CHECK.due("drive(5)", x.drive(5), BarnPictures.UNKNOWN);
        CHECK.due("drive(min)", x.drive(Integer.MIN_VALUE), BarnPictures.UNKNOWN);
        CHECK.due("drive(max)", x.drive(Integer.MAX_VALUE), BarnPictures.UNKNOWN);
        int[] miles = {0, 8, 20, 26, 45};
        int at = 0;
        int paid = 0;
        for (int step = 1; step <= 40; step++) {
            int to = step * 7 % 5;
            int way = Math.abs(miles[to] - miles[at]);
            CHECK.due("drive from " + at + " to " + to, x.drive(to), way == 0 ? BarnPictures.NONE : way);
            paid += way;
            at = to;
            CHECK.due("the van is at", x.count(1), at);
            CHECK.due("paid for driving", x.count(5), paid);
            CHECK.due("what the show has", x.count(8), -paid);
        }
    }

    private static void driveIsAnAct() {
        BarnPictures x = new BarnPictures();
        x.drive(0);
        x.drive(9);
        CHECK.due("no state for NONE and an error", x.count(13), 0);
        x.drive(3);
        CHECK.due("a state for an act", x.count(13), 1);
        x.undo();
        CHECK.due("the van after undo", x.count(1), 0);
        CHECK.due("the cost after undo", x.count(5), 0);
    }

    private static void moveReel() {
        BarnPictures x = new BarnPictures();
        CHECK.due("moveReel(-1)", x.moveReel(-1, true), BarnPictures.UNKNOWN);
        CHECK.due("moveReel(10)", x.moveReel(10, false), BarnPictures.UNKNOWN);
        CHECK.due("into a full van, but it is there", x.moveReel(4, true), BarnPictures.NONE);
        CHECK.due("no state yet", x.count(13), 0);
        CHECK.due("put", x.moveReel(4, false), 11);
        CHECK.due("a state", x.count(13), 1);
        CHECK.due("its barn", x.reel(4, 0), 0);
        CHECK.due("put again", x.moveReel(4, false), BarnPictures.NONE);
        x.drive(2);
        CHECK.due("put, in another barn", x.moveReel(4, false), BarnPictures.NOT_POSSIBLE);
        CHECK.due("take, in another barn", x.moveReel(4, true), BarnPictures.NOT_POSSIBLE);
        CHECK.due("put in the barn 2", x.moveReel(5, false), 10);
        CHECK.due("its barn", x.reel(5, 0), 2);
        CHECK.due("things in the van", x.count(2), 10);
        CHECK.due("reels in the barn 2", x.barn(2, 3), 1);
        CHECK.due("reels in the barn 0", x.barn(0, 3), 1);
        CHECK.due("nothing is paid for it", x.count(8), -20);
    }

    private static void moveGenerator() {
        BarnPictures x = new BarnPictures();
        CHECK.due("moveGenerator(-1)", x.moveGenerator(-1, false), BarnPictures.UNKNOWN);
        CHECK.due("moveGenerator(2)", x.moveGenerator(2, false), BarnPictures.UNKNOWN);
        CHECK.due("take, but it is there", x.moveGenerator(1, true), BarnPictures.NONE);
        CHECK.due("no state yet", x.count(13), 0);
        CHECK.due("put", x.moveGenerator(1, false), 11);
        CHECK.due("a state", x.count(13), 1);
        CHECK.due("its barn", x.generator(1, 0), 0);
        CHECK.due("put again", x.moveGenerator(1, false), BarnPictures.NONE);
        CHECK.due("take into a full van", x.moveGenerator(1, true), BarnPictures.FULL);
        x.drive(4);
        CHECK.due("put, in another barn", x.moveGenerator(1, false), BarnPictures.NOT_POSSIBLE);
        CHECK.due("take, in another barn", x.moveGenerator(1, true), BarnPictures.NOT_POSSIBLE);
        CHECK.due("put in the barn 4", x.moveGenerator(0, false), 10);
        CHECK.due("its barn", x.generator(0, 0), 4);
    }

    private static void roomInTheVan() {
        BarnPictures x = new BarnPictures();
        CHECK.through(x, "-0,-1,-2,g0");
        CHECK.due("things", x.count(2), 8);
        CHECK.due("a reel, 8 things", x.moveReel(0, true), BarnPictures.FULL);
        CHECK.due("a generator, 8 things", x.moveGenerator(0, true), BarnPictures.FULL);
        CHECK.due("one more out", x.moveReel(9, false), 7);
        CHECK.due("a generator, 7 things", x.moveGenerator(0, true), 8);
        CHECK.due("a reel, 8 things again", x.moveReel(9, true), BarnPictures.FULL);
        CHECK.due("a generator out", x.moveGenerator(1, false), 7);
        CHECK.due("a reel, 7 things", x.moveReel(9, true), 8);
        CHECK.due("its place", x.reel(9, 0), BarnPictures.NONE);
    }

    private static void goneReelIsUnknown() {
        BarnPictures x = new BarnPictures();
        // 8 minutes are 6 splices: one after 8 shows, one after each 4 more.
        CHECK.through(x, "f0:300,-0,g0");
        for (int show = 0; show < 28; show++) {
            CHECK.due("reels that are gone", x.count(3), 0);
            CHECK.due("shows left", x.reel(0, 5), 28 - show);
            CHECK.through(x, "s,d");
        }
        CHECK.due("reels that are gone", x.count(3), 1);
        CHECK.due("splices of gone reels too", x.count(12), 6);
        CHECK.due("reels in the barn", x.barn(0, 3), 0);
        CHECK.due("no reel for a show", x.show(0), BarnPictures.NO_SHOW - 2);
        for (int what = -1; what < 7; what++) {
            CHECK.due("reel(gone, " + what + ")", x.reel(0, what), BarnPictures.UNKNOWN);
        }
        CHECK.due("put gone", x.moveReel(0, false), BarnPictures.UNKNOWN);
        CHECK.due("take gone", x.moveReel(0, true), BarnPictures.UNKNOWN);
        CHECK.due("renew gone", x.renew(0), BarnPictures.UNKNOWN);
        CHECK.due("perform with gone", Check.perform(x, "d,+0"), BarnPictures.NOT_POSSIBLE);
        CHECK.due("it is stopped there", x.stopped(0), 1);
        CHECK.due("it is stopped by", x.stopped(1), BarnPictures.UNKNOWN);
        CHECK.due("things in the van", x.count(2), 10);
        CHECK.due("undo of the show", x.undo(), 3);
        CHECK.due("it is there again", x.reel(0, 1), 3);
        CHECK.due("shows left", x.reel(0, 5), 1);
    }

    private static void fuel() {
        BarnPictures x = new BarnPictures();
        CHECK.due("fuel(-1, 3)", x.fuel(-1, 3), BarnPictures.UNKNOWN);
        CHECK.due("fuel(2, 5)", x.fuel(2, 5), BarnPictures.UNKNOWN);
        int[] bad = {0, -5, 4, 6, 7, 501, 505, 1000, Integer.MIN_VALUE, Integer.MAX_VALUE};
        for (int minutes : bad) {
            CHECK.due("fuel(0, " + minutes + ")", x.fuel(0, minutes), BarnPictures.BAD_VALUE);
        }
        CHECK.due("fuel(0, 500)", x.fuel(0, 500), BarnPictures.FULL);
        CHECK.due("fuel(0, 445)", x.fuel(0, 445), BarnPictures.FULL);
        CHECK.due("no state, nothing paid", x.count(13) + x.count(6), 0);
        CHECK.due("fuel(0, 5)", x.fuel(0, 5), 65);
        CHECK.due("1 coin", x.count(6), 1);
        CHECK.due("a state", x.count(13), 1);
        CHECK.due("fuel(0, 435)", x.fuel(0, 435), 500);
        CHECK.due("88 coins", x.count(6), 88);
        CHECK.due("what the show has", x.count(8), -88);
        CHECK.due("fuel told", x.generator(0, 1), 500);
        CHECK.due("fuel of the other one", x.generator(1, 1), 60);
        x.moveGenerator(0, false);
        CHECK.due("out of the van", x.fuel(0, 500), BarnPictures.NOT_POSSIBLE);
        CHECK.due("out of the van, bad", x.fuel(0, 501), BarnPictures.BAD_VALUE);
    }

    private static void renew() {
        BarnPictures x = new BarnPictures();
        CHECK.due("renew(-1)", x.renew(-1), BarnPictures.UNKNOWN);
        CHECK.due("renew(10)", x.renew(10), BarnPictures.UNKNOWN);
        CHECK.due("a new one", x.renew(9), 17);
        CHECK.due("30 coins", x.count(7), 30);
        CHECK.due("a state", x.count(13), 1);
        CHECK.through(x, "f0:440,-3,-4,-5,-6,g0");
        for (int show = 0; show < 8; show++) {
            x.show(0);
            x.nextDay();
        }
        CHECK.due("in a barn", x.renew(3), BarnPictures.NOT_POSSIBLE);
        CHECK.due("wear", x.reel(3, 2), 20);
        CHECK.due("minutes", x.reel(3, 1), 10);
        CHECK.due("splices", x.reel(3, 3), 1);
        CHECK.due("played in", x.reel(3, 4), 1);
        CHECK.due("all splices", x.count(12), 4);
        CHECK.due("take", x.moveReel(3, true), 8);
        CHECK.due("renew", x.renew(3), 11);
        CHECK.due("wear of it", x.reel(3, 2), 0);
        CHECK.due("minutes of it", x.reel(3, 1), 11);
        CHECK.due("splices of it", x.reel(3, 3), 0);
        CHECK.due("played in, of it", x.reel(3, 4), 0);
        CHECK.due("shows left", x.reel(3, 5), 8 + 8 * 4);
        CHECK.due("all splices ever", x.count(12), 4);
        CHECK.due("60 coins", x.count(7), 60);
        CHECK.due("another one is as it was", x.reel(4, 2), 20);
    }
}
