/** Promises 17 to 23: reel, generator, barn, bestBarn, ifPrice, showOf, count. */
public final class TellingTest {
    private static final Check CHECK = new Check();
    private static final int[] WRONG = {-1, Integer.MIN_VALUE, Integer.MAX_VALUE, -10000005};

    public static void main(String[] args) {
        wrongArguments();
        reel();
        showsLeft();
        generator();
        barn();
        bestBarn();
        bestBarnTakesTheLowest();
        ifPrice();
        showOf();
        count();
        CHECK.end();
    }

    private static void wrongArguments() {
        BarnPictures x = new BarnPictures();
        for (int wrong : WRONG) {
            CHECK.due("reel(wrong, 0)", x.reel(wrong, 0), BarnPictures.UNKNOWN);
            CHECK.due("reel(wrong, wrong)", x.reel(wrong, wrong), BarnPictures.UNKNOWN);
            CHECK.due("reel(0, wrong)", x.reel(0, wrong), BarnPictures.BAD_VALUE);
            CHECK.due("generator(wrong, 0)", x.generator(wrong, 0), BarnPictures.UNKNOWN);
            CHECK.due("generator(wrong, wrong)", x.generator(wrong, wrong), BarnPictures.UNKNOWN);
            CHECK.due("generator(0, wrong)", x.generator(0, wrong), BarnPictures.BAD_VALUE);
            CHECK.due("barn(wrong, 0)", x.barn(wrong, 0), BarnPictures.UNKNOWN);
            CHECK.due("barn(wrong, wrong)", x.barn(wrong, wrong), BarnPictures.UNKNOWN);
            CHECK.due("barn(0, wrong)", x.barn(0, wrong), BarnPictures.BAD_VALUE);
            CHECK.due("ifPrice(wrong, 1)", x.ifPrice(wrong, 1), BarnPictures.UNKNOWN);
            CHECK.due("ifPrice(wrong, wrong)", x.ifPrice(wrong, wrong), BarnPictures.UNKNOWN);
            CHECK.due("ifPrice(0, wrong)", x.ifPrice(0, wrong), BarnPictures.BAD_VALUE);
            CHECK.due("showOf(0, wrong)", x.showOf(0, wrong), BarnPictures.BAD_VALUE);
            CHECK.due("count(wrong)", x.count(wrong), BarnPictures.BAD_VALUE);
        }
        CHECK.due("reel(10, 0)", x.reel(10, 0), BarnPictures.UNKNOWN);
        CHECK.due("reel(9, 6)", x.reel(9, 6), BarnPictures.BAD_VALUE);
        CHECK.due("generator(2, 0)", x.generator(2, 0), BarnPictures.UNKNOWN);
        CHECK.due("generator(1, 2)", x.generator(1, 2), BarnPictures.BAD_VALUE);
        CHECK.due("barn(5, 0)", x.barn(5, 0), BarnPictures.UNKNOWN);
        CHECK.due("barn(4, 9)", x.barn(4, 9), BarnPictures.BAD_VALUE);
        CHECK.due("ifPrice(5, 1)", x.ifPrice(5, 1), BarnPictures.UNKNOWN);
        CHECK.due("ifPrice(4, 0)", x.ifPrice(4, 0), BarnPictures.BAD_VALUE);
        CHECK.due("ifPrice(4, 100)", x.ifPrice(4, 100), BarnPictures.BAD_VALUE);
        CHECK.due("showOf(0, 5)", x.showOf(0, 5), BarnPictures.BAD_VALUE);
        CHECK.due("showOf(-1, 0)", x.showOf(-1, 0), BarnPictures.BAD_VALUE);
        CHECK.due("showOf(min, 0)", x.showOf(Integer.MIN_VALUE, 0), BarnPictures.BAD_VALUE);
        CHECK.due("showOf(max, 0)", x.showOf(Integer.MAX_VALUE, 0), BarnPictures.NONE);
        CHECK.due("showOf(max, 5)", x.showOf(Integer.MAX_VALUE, 5), BarnPictures.BAD_VALUE);
        CHECK.due("count(15)", x.count(15), BarnPictures.BAD_VALUE);
        CHECK.due("telling is no act", x.count(13), 0);
    }

    private static void reel() {
        BarnPictures x = new BarnPictures();
        CHECK.through(x, "f0:200,v4,-7,g0");
        int[] wears = {6, 12, 18, 24, 30, 36, 22, 28, 34, 20};
        for (int show = 0; show < wears.length; show++) {
            CHECK.through(x, "s,d");
            int splices = show < 6 ? 0 : show < 9 ? 1 : 2;
            CHECK.due("barn", x.reel(7, 0), 4);
            CHECK.due("minutes", x.reel(7, 1), 15 - splices);
            CHECK.due("wear", x.reel(7, 2), wears[show]);
            CHECK.due("splices", x.reel(7, 3), splices);
            CHECK.due("barns", x.reel(7, 4), 16);
        }
        CHECK.through(x, "-8,-9,-6,-5,+7");
        CHECK.due("in the van", x.reel(7, 0), BarnPictures.NONE);
        CHECK.due("wear stays", x.reel(7, 2), 20);
    }

    private static void showsLeft() {
        BarnPictures x = new BarnPictures();
        for (int reel = 0; reel < 10; reel++) {
            CHECK.due("shows left of a new reel", x.reel(reel, 5), 8 + (reel + 5) * 4);
        }
        CHECK.through(x, "f0:400,v2,-0,g0,s");
        CHECK.due("wear 7", x.reel(0, 5), 7 + 20);
        CHECK.through(x, "d,s,d,s");
        CHECK.due("wear 21", x.reel(0, 5), 4 + 20);
        CHECK.through(x, "d,s,d,s");
        CHECK.due("wear 35", x.reel(0, 5), 1 + 20);
        CHECK.through(x, "d,s");
        CHECK.due("wear 22, after a splice", x.reel(0, 5), 4 + 16);
        CHECK.due("telling changes nothing", x.reel(0, 2), 22);
    }

    private static void generator() {
        BarnPictures x = new BarnPictures();
        CHECK.due("in the van", x.generator(1, 0), BarnPictures.NONE);
        CHECK.through(x, "v3,g1,f0:25");
        CHECK.due("in the barn 3", x.generator(1, 0), 3);
        CHECK.due("its fuel", x.generator(1, 1), 60);
        CHECK.due("fuel of the other one", x.generator(0, 1), 85);
        CHECK.due("place of the other one", x.generator(0, 0), BarnPictures.NONE);
    }

    private static void barn() {
        BarnPictures x = new BarnPictures();
        int[] miles = {0, 8, 20, 26, 45};
        int[] seats = {40, 60, 80, 50, 30};
        int[] rough = {0, 1, 2, 0, 1};
        for (int barn = 0; barn < 5; barn++) {
            CHECK.due("mile", x.barn(barn, 0), miles[barn]);
            CHECK.due("seats", x.barn(barn, 1), seats[barn]);
            CHECK.due("roughness", x.barn(barn, 2), rough[barn]);
        }
        CHECK.through(x, "f1:50,v1,-2,-9");
        CHECK.due("reels", x.barn(1, 3), 2);
        CHECK.due("minutes", x.barn(1, 4), 27);
        CHECK.due("people, whether it can be or not", x.barn(1, 5), 60);
        CHECK.due("reason", x.barn(1, 6), 3);
        CHECK.through(x, "g1,s");
        CHECK.due("people now", x.barn(1, 5), 0);
        CHECK.due("reason", x.barn(1, 6), 1);
        CHECK.due("shows", x.barn(1, 7), 1);
        CHECK.due("takings", x.barn(1, 8), 240);
        CHECK.through(x, "-0,d,s");
        CHECK.due("shows", x.barn(1, 7), 2);
        CHECK.due("takings", x.barn(1, 8), 320);
        CHECK.due("shows elsewhere", x.barn(0, 7), 0);
        CHECK.due("takings elsewhere", x.barn(2, 8), 0);
    }

    private static void bestBarn() {
        BarnPictures x = new BarnPictures();
        CHECK.through(x, "-9,g0");
        CHECK.due("the only one", x.bestBarn(), 0);
        CHECK.through(x, "v3,-8,g1");
        CHECK.due("50 seats, not 40", x.bestBarn(), 3);
        x.undo();
        x.undo();
        CHECK.due("none", x.bestBarn(), BarnPictures.NONE);
        CHECK.through(x, "v4,-0,g0");
        CHECK.due("the only one", x.bestBarn(), 4);
        CHECK.through(x, "v2,-1");
        CHECK.due("more people, but no generator", x.bestBarn(), 4);
        CHECK.through(x, "g1");
        CHECK.due("more people", x.bestBarn(), 2);
        CHECK.through(x, "s");
        CHECK.due("that one had its show", x.bestBarn(), 4);
        x.show(4);
        CHECK.due("none", x.bestBarn(), BarnPictures.NONE);
        x.nextDay();
        CHECK.due("nobody comes, but it can be", x.bestBarn(), 2);
        CHECK.through(x, "v4,-2");
        CHECK.due("half of 30", x.bestBarn(), 4);
        CHECK.through(x, "v2,-3,-4,-5,-6,-7");
        CHECK.due("too many minutes there", x.barn(2, 6), 4);
        CHECK.due("still", x.bestBarn(), 4);
        CHECK.due("telling is no act", x.count(9), 2);
    }

    private static void bestBarnTakesTheLowest() {
        BarnPictures x = new BarnPictures();
        CHECK.through(x, "f0:100,f1:100,v4,-0,g0,v3,-1,g1,s,d,s,v4,s");
        x.nextDay();
        CHECK.due("nobody comes to 3 and 4", x.barn(3, 5) + x.barn(4, 5), 0);
        CHECK.due("of several the lowest", x.bestBarn(), 3);
        x.show(3);
        CHECK.due("the other one", x.bestBarn(), 4);
    }

    private static void ifPrice() {
        BarnPictures x = new BarnPictures();
        CHECK.due("without reels", x.ifPrice(3, 99), 0);
        CHECK.through(x, "v3,-0,-1");
        CHECK.due("whether it can be or not", x.ifPrice(3, 99), 50 * 99);
        CHECK.due("at 1", x.ifPrice(3, 1), 50);
        CHECK.due("at the price that it has", x.ifPrice(3, 4), 200);
        CHECK.due("the price stays", x.count(11), 4);
        CHECK.through(x, "g0,s,-2");
        CHECK.due("a third of them, today too", x.ifPrice(3, 10), 160);
    }

    private static void showOf() {
        BarnPictures x = new BarnPictures();
        CHECK.through(x, "f0:300,-0,g0,v1,-1,-2,g1");
        x.setPrice(2);
        for (int day = 0; day < 4; day++) {
            x.show(0);
            CHECK.due("day of the latest", x.showOf(0, 0), day);
            CHECK.due("barn of the latest", x.showOf(0, 1), 0);
            CHECK.due("minutes of the latest", x.showOf(0, 4), 8);
            CHECK.due("what is not there yet", x.showOf(day < 2 ? 1 + 2 * day : 6, 0), BarnPictures.NONE);
            x.show(1);
            x.nextDay();
        }
        // The generator 1 had fuel for 3 shows of 19 minutes: these are 4 + 3.
        int[] days = {3, 2, 2, 1, 1, 0};
        int[] barns = {0, 1, 0, 1, 0, 1};
        for (int back = 0; back < 6; back++) {
            CHECK.due("day " + back, x.showOf(back, 0), days[back]);
            CHECK.due("barn " + back, x.showOf(back, 1), barns[back]);
            CHECK.due("people " + back, x.showOf(back, 2), back == 5 ? 60 : 0);
            CHECK.due("takings " + back, x.showOf(back, 3), back == 5 ? 120 : 0);
            CHECK.due("minutes " + back, x.showOf(back, 4), barns[back] == 0 ? 8 : 19);
        }
        CHECK.due("the 7th", x.showOf(6, 0), BarnPictures.NONE);
        CHECK.due("people so far", x.count(10), 100);
        CHECK.due("shows so far", x.count(9), 7);
    }

    private static void count() {
        BarnPictures x = new BarnPictures();
        x.setPrice(10);
        CHECK.through(x, "f0:200,f1:15,v1,-5,-6,g0,s,d,v3,-7,g1,s");
        x.renew(1);
        Check.write(x, "+12");
        int[] numbers = {1, 3, 7, 0, 1100, 26, 43, 30, 1001, 2, 110, 10, 0, 3, 3};
        for (int what = 0; what < numbers.length; what++) {
            CHECK.due("count(" + what + ")", x.count(what), numbers[what]);
        }
        for (int show = 0; show < 7; show++) {
            x.nextDay();
            x.show(1);
        }
        CHECK.due("splices", x.count(12), 2);
        CHECK.due("shows", x.count(9), 9);
        CHECK.due("accounts add up", x.count(8), x.count(4) - x.count(5) - x.count(6) - x.count(7));
        CHECK.due("takings of the barns", x.barn(1, 8) + x.barn(3, 8), x.count(4));
    }
}
