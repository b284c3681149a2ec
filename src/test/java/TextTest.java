/** Promises 10 to 13: type, clearText, perform, stopped. */
public final class TextTest {
    private static final Check CHECK = new Check();

    public static void main(String[] args) {
        type();
        clearText();
        faults();
        faultsOfMinutes();
        signsThatAreNotAllowed();
        longTexts();
        commands();
        generatorGoesBothWays();
        performIsOneAct();
        allOrNone();
        noneDoesNothing();
        stopped();
        CHECK.end();
    }

    private static void type() {
        BarnPictures x = new BarnPictures();
        char[] signs = {'s', ' ', 0, (char) 255, (char) 65535, (char) 0x0660, '\n'};
        for (int i = 0; i < 80; i++) {
            CHECK.due("type", x.type(signs[i % signs.length]), i + 1);
        }
        CHECK.due("type the 81st", x.type('s'), BarnPictures.FULL);
        CHECK.due("length", x.count(14), 80);
        CHECK.due("no act", x.count(13), 0);
    }

    private static void clearText() {
        BarnPictures x = new BarnPictures();
        CHECK.due("clearText() of none", x.clearText(), 0);
        Check.write(x, "v1,d");
        CHECK.due("clearText()", x.clearText(), 4);
        CHECK.due("length", x.count(14), 0);
        CHECK.due("clearText() again", x.clearText(), 0);
        CHECK.due("no act", x.count(13), 0);
        CHECK.due("perform() of what was", x.perform(), -10000200);
        // Undo leaves the text as it is.
        Check.write(x, "d");
        x.perform();
        CHECK.due("the text stays", x.count(14), 1);
        x.undo();
        CHECK.due("the text stays at undo", x.count(14), 1);
    }

    /** Looks at the fault of a text: a new object, where fuel may be FULL, but that is no fault. */
    private static void fault(String text, int want) {
        BarnPictures x = new BarnPictures();
        CHECK.due("fault of \"" + text + "\"", Check.perform(x, text), -10000200 - want);
        CHECK.due("no stop by a fault", x.stopped(0), BarnPictures.NONE);
        CHECK.due("no state by a fault", x.count(13), 0);
    }

    /** A text without a fault, whether it is stopped or not. */
    private static void sound(String text, int commands) {
        BarnPictures x = new BarnPictures();
        int answer = Check.perform(x, text);
        int want = answer == BarnPictures.NOT_POSSIBLE ? answer : commands;
        CHECK.due("no fault in \"" + text + "\"", answer, want);
    }

    private static void faults() {
        fault("", 0);
        fault(",", 0);
        fault("x", 0);
        fault("V1", 0);
        fault(" d", 0);
        fault("0", 0);
        fault("v", 1);
        fault("v,", 1);
        fault("v5", 1);
        fault("v-", 1);
        fault("v44", 2);
        fault("v4 ", 2);
        fault("v4,", 3);
        fault("v4,,", 3);
        fault("+", 1);
        fault("+:", 1);
        fault("+/", 1);
        fault("+99", 2);
        fault("-", 1);
        fault("--", 1);
        fault("-1+1", 2);
        fault("g", 1);
        fault("g2", 1);
        fault("g01", 2);
        fault("s0", 1);
        fault("ss", 1);
        fault("s,", 2);
        fault("d,d,", 4);
        fault("d;d", 1);
        fault("d,d,z", 4);
        fault("s,v9,q", 3);
        sound("v0", 1);
        sound("v4", 1);
        sound("+0", 1);
        sound("+9", 1);
        sound("-0,-9", 2);
        sound("g0,g1", 2);
        sound("s", 1);
        sound("d", 1);
        sound("d,v3,s,+1", 4);
    }

    private static void faultsOfMinutes() {
        fault("f", 1);
        fault("f2", 1);
        fault("f:", 1);
        fault("f0", 2);
        fault("f0,", 2);
        fault("f05", 2);
        fault("f0:", 3);
        fault("f0:,", 3);
        fault("f0:0", 3);
        fault("f0:05", 3);
        fault("f0:-5", 3);
        fault("f0:1", 4);
        fault("f0:4,", 4);
        fault("f0:6", 4);
        fault("f0:9x", 4);
        fault("f0:12", 5);
        fault("f0:12,d", 5);
        fault("f0:51", 5);
        fault("f0:51,d", 5);
        fault("f0:510", 5);
        fault("f0:501", 5);
        fault("f0:505", 5);
        fault("f0:600", 5);
        fault("f0:995", 5);
        fault("f0:499", 6);
        fault("f0:499,", 6);
        fault("f0:4995", 6);
        fault("f0:500,", 7);
        fault("f0:5000", 6);
        fault("f0:1000", 6);
        fault("f0:1005", 6);
        fault("f0:5 ", 4);
        fault("f0:5f", 4);
        fault("f0:55:", 5);
        fault("f1:100,f1:7", 11);
        sound("f0:5", 1);
        sound("f1:10", 1);
        sound("f0:50", 1);
        sound("f0:95", 1);
        sound("f0:100", 1);
        sound("f0:495", 1);
        sound("f0:500", 1);
        sound("f1:15,d", 2);
    }

    private static void signsThatAreNotAllowed() {
        String starts = "v+-gfsd";
        for (int sign = 0; sign < 300; sign++) {
            BarnPictures x = new BarnPictures();
            x.type((char) sign);
            boolean start = starts.indexOf(sign) >= 0;
            int answer = x.perform();
            boolean first = answer == -10000200;
            CHECK.due("a text that begins with " + sign, first ? 0 : 1, start ? 1 : 0);
            x.clearText();
            x.type('+');
            x.type((char) sign);
            boolean digit = sign >= '0' && sign <= '9';
            CHECK.due("a reel " + sign, x.perform(), digit ? 1 : -10000201);
        }
        // Signs whose lower 8 bits are those of an allowed one.
        char[] others = {(char) ('d' + 256), (char) ('d' + 512), (char) 0xff44, (char) 0x0660, (char) 65535};
        for (char other : others) {
            fault("" + other, 0);
            fault("+" + other, 1);
            fault("d" + other, 1);
        }
    }

    private static void longTexts() {
        BarnPictures x = new BarnPictures();
        CHECK.due("40 commands", Check.perform(x, "d,".repeat(39) + "d"), 40);
        CHECK.due("day", x.count(0), 40);
        fault("d,".repeat(40), 80);
        fault("d,".repeat(39) + "dd", 79);
        fullText("d,".repeat(39) + "v1", 40);
        fault("d,".repeat(38) + "d,+", 79);
        fault("d,".repeat(39) + "v", 79);
        fault("d".repeat(80), 1);
        fullText("d,".repeat(38) + "f0:5", 39);
        fault("d,".repeat(38) + "f0:1", 80);
    }

    private static void fullText(String text, int commands) {
        CHECK.due("signs", text.length(), 80);
        CHECK.due("a full text", Check.perform(new BarnPictures(), text), commands);
    }

    private static void commands() {
        BarnPictures x = new BarnPictures();
        CHECK.due("a whole route", Check.perform(x, "f0:40,v1,-3,-4,-5,-6,-7,g0,s,d,+5,v2"), 12);
        CHECK.due("day", x.count(0), 1);
        CHECK.due("van", x.count(1), 2);
        CHECK.due("driving", x.count(5), 20);
        CHECK.due("fuel bought", x.count(6), 8);
        CHECK.due("fuel left", x.generator(0, 1), 35);
        CHECK.due("shows", x.barn(1, 7), 1);
        CHECK.due("reel 4", x.reel(4, 0), 1);
        CHECK.due("reel 5", x.reel(5, 0), BarnPictures.NONE);
        CHECK.due("the text stays", x.count(14), 36);
        CHECK.due("a show where the van is", x.showOf(0, 1), 1);
        CHECK.due("minutes of it", x.showOf(0, 4), 65);
    }

    private static void generatorGoesBothWays() {
        BarnPictures x = new BarnPictures();
        CHECK.through(x, "-0,-1,-2,-3,g1");
        CHECK.due("put", x.generator(1, 0), 0);
        CHECK.due("taken", Check.perform(x, "g1"), 1);
        CHECK.due("in the van", x.generator(1, 0), BarnPictures.NONE);
        CHECK.due("things", x.count(2), 8);
        CHECK.through(x, "g1,v3");
        CHECK.due("in another barn", Check.perform(x, "g1"), BarnPictures.NOT_POSSIBLE);
        CHECK.due("stopped by", x.stopped(1), BarnPictures.NOT_POSSIBLE);
        BarnPictures y = new BarnPictures();
        CHECK.due("a van that is full", Check.perform(y, "g0,g0"), BarnPictures.NOT_POSSIBLE);
        CHECK.due("stopped at", y.stopped(0), 1);
        CHECK.due("stopped by FULL", y.stopped(1), BarnPictures.FULL);
    }

    private static void performIsOneAct() {
        BarnPictures x = new BarnPictures();
        x.setPrice(7);
        CHECK.through(x, "d,d,d,v4,-1");
        CHECK.due("states", x.count(13), 2);
        CHECK.due("undo of all", x.undo(), 1);
        CHECK.due("day", x.count(0), 0);
        CHECK.due("van", x.count(1), 0);
        CHECK.due("price", x.count(11), 7);
        CHECK.due("things", x.count(2), 12);
    }

    private static void allOrNone() {
        BarnPictures x = new BarnPictures();
        x.nextDay();
        CHECK.due("stopped by the last one", Check.perform(x, "f0:5,v2,-0,g0,s,d,s,s"), BarnPictures.NOT_POSSIBLE);
        CHECK.due("number", x.stopped(0), 7);
        CHECK.due("error", x.stopped(1), -10000011);
        CHECK.due("day", x.count(0), 1);
        CHECK.due("van", x.count(1), 0);
        CHECK.due("things", x.count(2), 12);
        CHECK.due("accounts", x.count(4) + x.count(5) + x.count(6) + x.count(8) + x.count(9) + x.count(10), 0);
        CHECK.due("fuel", x.generator(0, 1), 60);
        CHECK.due("reel", x.reel(0, 2) + x.reel(0, 4), 0);
        CHECK.due("log", x.showOf(0, 0), BarnPictures.NONE);
        CHECK.due("barn", x.barn(2, 7) + x.barn(2, 8) + x.barn(2, 3), 0);
        CHECK.due("states", x.count(13), 1);
        CHECK.due("the text stays", x.count(14), 21);
        CHECK.due("undo of what was", x.undo(), 0);
        CHECK.due("day", x.count(0), 0);
    }

    private static void noneDoesNothing() {
        BarnPictures x = new BarnPictures();
        CHECK.due("none of them does anything", Check.perform(x, "v0,+0,+9,v0"), 4);
        CHECK.due("but it is an act", x.count(13), 1);
        CHECK.due("no stop", x.stopped(0), BarnPictures.NONE);
        CHECK.due("one of them does", Check.perform(x, "v0,-0,-0,v1,v1"), 5);
        CHECK.due("van", x.count(1), 1);
        CHECK.due("driving", x.count(5), 8);
        CHECK.due("number counts them too", Check.perform(x, "v1,v1,-0"), BarnPictures.NOT_POSSIBLE);
        CHECK.due("number", x.stopped(0), 2);
    }

    private static void stopped() {
        BarnPictures x = new BarnPictures();
        CHECK.due("stopped(-1)", x.stopped(-1), BarnPictures.BAD_VALUE);
        CHECK.due("stopped(2)", x.stopped(2), BarnPictures.BAD_VALUE);
        CHECK.due("stopped(0)", x.stopped(0), BarnPictures.NONE);
        CHECK.due("stopped(1)", x.stopped(1), BarnPictures.NONE);
        CHECK.due("stop", Check.perform(x, "s"), BarnPictures.NOT_POSSIBLE);
        CHECK.due("stopped(0)", x.stopped(0), 0);
        CHECK.due("stopped(1)", x.stopped(1), -10000012);
        CHECK.due("stopped(2)", x.stopped(2), BarnPictures.BAD_VALUE);
        CHECK.due("another stop", Check.perform(x, "d,f0:445"), BarnPictures.NOT_POSSIBLE);
        CHECK.due("stopped(0)", x.stopped(0), 1);
        CHECK.due("stopped(1)", x.stopped(1), BarnPictures.FULL);
        CHECK.through(x, "d");
        CHECK.due("the latest stop stays", x.stopped(0), 1);
        CHECK.due("a fault", Check.perform(x, "d,x"), -10000202);
        CHECK.due("the latest stop stays", x.stopped(1), BarnPictures.FULL);
        x.undo();
        CHECK.due("the latest stop stays", x.stopped(0), 1);
        x.show(0);
        CHECK.due("show() is no stop of perform()", x.stopped(1), BarnPictures.FULL);
        CHECK.due("no generator there", Check.perform(x, "v1,-2,s"), BarnPictures.NOT_POSSIBLE);
        CHECK.due("stopped(0)", x.stopped(0), 2);
        CHECK.due("stopped(1)", x.stopped(1), -10000013);
    }
}
