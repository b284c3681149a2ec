/** Promises 14 to 16: undo, keep, restore. */
public final class HistoryTest {
    private static final Check CHECK = new Check();

    public static void main(String[] args) {
        undo();
        oldestIsDropped();
        undoIsNoAct();
        undoBringsAllBack();
        eachActIsUndone();
        wornReelsAreBroughtBack();
        keepAndRestore();
        snapshotStays();
        snapshotIsNoPartOfAState();
        CHECK.end();
    }

    private static void undo() {
        BarnPictures x = new BarnPictures();
        CHECK.due("undo() of none", x.undo(), BarnPictures.NONE);
        x.nextDay();
        x.drive(1);
        CHECK.due("states", x.count(13), 2);
        CHECK.due("undo()", x.undo(), 1);
        CHECK.due("van", x.count(1), 0);
        CHECK.due("day", x.count(0), 1);
        CHECK.due("undo()", x.undo(), 0);
        CHECK.due("day", x.count(0), 0);
        CHECK.due("undo() of none", x.undo(), BarnPictures.NONE);
        CHECK.due("states", x.count(13), 0);
    }

    private static void oldestIsDropped() {
        BarnPictures x = new BarnPictures();
        for (int day = 1; day <= 11; day++) {
            x.nextDay();
            CHECK.due("states", x.count(13), Math.min(day, 4));
        }
        for (int left = 3; left >= 0; left--) {
            CHECK.due("undo()", x.undo(), left);
            CHECK.due("day", x.count(0), 7 + left);
        }
        CHECK.due("undo() of none", x.undo(), BarnPictures.NONE);
        CHECK.due("day", x.count(0), 7);
        x.drive(4);
        x.drive(1);
        CHECK.due("undo()", x.undo(), 1);
        CHECK.due("van", x.count(1), 4);
        x.setPrice(50);
        CHECK.due("undo()", x.undo(), 1);
        CHECK.due("undo()", x.undo(), 0);
        CHECK.due("van", x.count(1), 0);
    }

    private static void undoIsNoAct() {
        BarnPictures x = new BarnPictures();
        x.nextDay();
        x.undo();
        CHECK.due("states", x.count(13), 0);
        CHECK.due("nothing to do again", x.undo(), BarnPictures.NONE);
        CHECK.due("day", x.count(0), 0);
        // Neither does what only tells or types put a state there.
        x.type('d');
        x.keep();
        x.reel(0, 0);
        x.generator(0, 0);
        x.barn(0, 0);
        x.bestBarn();
        x.ifPrice(0, 1);
        x.showOf(0, 0);
        x.stopped(0);
        x.clearText();
        CHECK.due("states", x.count(13), 0);
    }

    private static void undoBringsAllBack() {
        BarnPictures x = new BarnPictures();
        CHECK.through(x, "f0:40,-0,-1,-2,-3,g0");
        String before = World.told(x);
        CHECK.through(x, "s,d,f1:10,v2,-4,g1,s,+4,-5");
        x.renew(9);
        x.setPrice(20);
        CHECK.due("something has changed", before.equals(World.told(x)) ? 1 : 0, 0);
        x.undo();
        x.undo();
        CHECK.due("undo()", x.undo(), 1);
        CHECK.due("all is as before", before.equals(World.told(x)) ? 1 : 0, 1);
    }

    /** Does the act of a number, of 0 to 10. */
    private static int act(BarnPictures x, int number) {
        switch (number) {
            case 0: return x.drive(2);
            case 1: return x.moveReel(3, false);
            case 2: return x.moveReel(0, true);
            case 3: return x.moveGenerator(1, false);
            case 4: return x.fuel(1, 10);
            case 5: return x.renew(5);
            case 6: return x.setPrice(11);
            case 7: return x.show(0);
            case 8: return x.perform();
            case 9: return x.restore();
            default: return x.nextDay();
        }
    }

    private static void eachActIsUndone() {
        for (int number = 0; number <= 10; number++) {
            BarnPictures x = new BarnPictures();
            CHECK.through(x, "f0:5,d,-0,-1,-2,-4");
            x.keep();
            x.moveReel(6, false);
            x.moveGenerator(0, false);
            Check.write(x, "d,v1");
            String before = World.told(x);
            CHECK.due("act " + number + " is done", act(x, number) >= 0 ? 1 : 0, 1);
            CHECK.due("states", x.count(13), 4);
            CHECK.due("act " + number + " has changed something", before.equals(World.told(x)) ? 1 : 0, 0);
            CHECK.due("undo()", x.undo(), 3);
            CHECK.due("act " + number + " is undone", before.equals(World.told(x)) ? 1 : 0, 1);
        }
    }

    private static void wornReelsAreBroughtBack() {
        BarnPictures x = new BarnPictures();
        CHECK.through(x, "f0:440,f1:300,-0,g0,s,d,s,d,s,d,s,d,s,d,s,d,s,d,s");
        CHECK.through(x, "v2,-1,g1,s");
        String before = World.told(x);
        x.keep();
        CHECK.through(x, "d,s,d,s,d,s,d,s,d,s,d,s,v0,s,d,s,d,s,d,s,d,s");
        String later = World.told(x);
        CHECK.due("more splices", x.count(12), 3);
        x.undo();
        CHECK.due("splices", x.count(12), 1);
        CHECK.due("splices of a reel", x.reel(0, 3) + x.reel(1, 3), 1);
        CHECK.due("shown today", x.barn(0, 6), 1);
        CHECK.due("all is as before", before.equals(World.told(x)) ? 1 : 0, 1);
        x.perform();
        CHECK.due("all is as later", later.equals(World.told(x)) ? 1 : 0, 1);
        x.restore();
        CHECK.due("all is as kept", before.equals(World.told(x)) ? 1 : 0, 1);
    }

    private static void keepAndRestore() {
        BarnPictures x = new BarnPictures();
        CHECK.due("restore() of none", x.restore(), BarnPictures.NONE);
        CHECK.due("no state", x.count(13), 0);
        CHECK.through(x, "d,d,d,-0,g0,s");
        CHECK.due("keep()", x.keep(), 3);
        CHECK.due("no state of keep()", x.count(13), 1);
        String kept = World.told(x);
        CHECK.through(x, "d,v1,-1,g1,s");
        x.setPrice(9);
        String later = World.told(x);
        CHECK.due("restore()", x.restore(), 3);
        CHECK.due("all is as kept", kept.equals(World.told(x)) ? 1 : 0, 1);
        CHECK.due("it is an act", x.count(13), 4);
        CHECK.due("undo() of it", x.undo(), 3);
        CHECK.due("all is as later", later.equals(World.told(x)) ? 1 : 0, 1);
    }

    private static void snapshotStays() {
        BarnPictures x = new BarnPictures();
        x.keep();
        x.nextDay();
        CHECK.due("restore()", x.restore(), 0);
        CHECK.due("restore() again", x.restore(), 0);
        CHECK.due("both are acts", x.count(13), 3);
        x.nextDay();
        CHECK.due("restore() of the same", x.restore(), 0);
        x.nextDay();
        CHECK.due("keep() in its place", x.keep(), 1);
        x.nextDay();
        CHECK.due("restore()", x.restore(), 1);
    }

    private static void snapshotIsNoPartOfAState() {
        BarnPictures x = new BarnPictures();
        x.nextDay();
        x.keep();
        x.undo();
        CHECK.due("day", x.count(0), 0);
        CHECK.due("the snapshot stays at undo", x.restore(), 1);
        Check.write(x, "d,d");
        x.restore();
        CHECK.due("the text stays at restore", x.count(14), 3);
        CHECK.due("stop", Check.perform(x, "s"), BarnPictures.NOT_POSSIBLE);
        x.restore();
        x.undo();
        CHECK.due("the stop stays", x.stopped(1), -10000012);
    }
}
