/** Promises 14 to 16: undo, keep, restore. */
public final class HistoryTest {
    private static final Check CHECK = new Check();

    public static void main(String[] args) {
        undo();
        oldestIsDropped();
        undoIsNoAct();
        undoBringsAllBack();
        eachActIsUndone();
        wornReelsAreBroughtBack();
        keepAndRestore();
        snapshotStays();
        snapshotIsNoPartOfAState();
        CHECK.end();
    }

    private static void undo() {
        BarnPictures x = new BarnPictures();
        CHECK.due("undo() of none", x.undo(), BarnPictures.NONE);
        x.nextDay();
        x.drive(1);
        CHECK.due("states", x.count(13), 2);
        CHECK.due("undo()", x.undo(), 1);
        CHECK.due("van", x.count(1), 0);
        CHECK.due("day", x.count(0), 1);
        CHECK.due("undo()", x.undo(), 0);
        CHECK.due("day", x.count(0), 0);
        CHECK.due("undo() of none", x.undo(), BarnPictures.NONE);
        CHECK.due("states", x.count(13), 0);
    }

    private static void oldestIsDropped() {
        BarnPictures x = new BarnPictures();
        for (int day = 1; day <= 11; day++) {
            x.nextDay();
            CHECK.due("states", x.count(13), Math.min(day, 4));
        }
        for (int left = 3; left >= 0; left--) {
            CHECK.due("undo()", x.undo(), left);
            CHECK.due("day", x.count(0), 7 + left);
        }
        CHECK.due("undo() of none", x.undo(), BarnPictures.NONE);
        CHECK.due("day", x.count(0), 7);
        x.drive(4);
        x.drive(1);
        CHECK.due("undo()", x.undo(), 1);
        CHECK.due("van", x.count(1), 4);
        x.setPrice(50);
        CHECK.due("undo()", x.undo(), 1);
        CHECK.due("undo()", x.undo(), 0);
        CHECK.due("van", x.count(1), 0);
    }

    private static void undoIsNoAct() {
        BarnPictures x = new BarnPictures();
        x.nextDay();
        x.undo();
        CHECK.due("states", x.count(13), 0);
        CHECK.due("nothing to do again", x.undo(), BarnPictures.NONE);
        CHECK.due("day", x.count(0), 0);
        // Neither does what only tells or types put a state there.
        x.type('d');
        x.keep();
        x.reel(0, 0);
        x.generator(0, 0);
        x.barn(0, 0);
        x.bestBarn();
        x.ifPrice(0, 1);
        x.showOf(0, 0);
        x.stopped(0);
        x.clearText();
        CHECK.due("states", x.count(13), 0);
    }

    /** Whether two runs on new objects leave the same state. */
    private static boolean same(String one, String other) {
        return World.told(Script.calls(one)).equals(World.told(Script.calls(other)));
    }

    private static void undoBringsAllBack() {
        String before = "route(f0:40,-0,-1,-2,-3,g0); ";
        String later = before + "route(s,d,f1:10,v2,-4,g1,s,+4,-5); renew(9); setPrice(20); ";
        CHECK.holds("something has changed", !same(before, later));
        CHECK.holds("3 undo() bring all back", same(before, later + "undo(); undo(); undo()"));
    }

    private static void eachActIsUndone() {
        String[] acts = {
            "drive(2)", "moveReel(3, false)", "moveReel(0, true)", "moveGenerator(1, false)", "fuel(1, 10)",
            "renew(5)", "setPrice(11)", "show(0)", "perform()", "restore()", "nextDay()"};
        String before = "route(f0:5,d,-0,-1,-2,-4); keep(); moveReel(6, false); moveGenerator(0, false); text(d,v1); ";
        for (String act : acts) {
            CHECK.holds(act + " changes something", !same(before, before + act));
            CHECK.holds(act + " is undone", same(before, before + act + "; undo()"));
            CHECK.sentence(act + " records a state", before + act + "; count(13) = 4; undo() = 3");
        }
    }

    private static void wornReelsAreBroughtBack() {
        String before = "route(f0:440,f1:300,-0,g0,s,d,s,d,s,d,s,d,s,d,s,d,s,d,s); route(v2,-1,g1,s); ";
        String later = before + "keep(); route(d,s,d,s,d,s,d,s,d,s,d,s,v0,s,d,s,d,s,d,s,d,s); ";
        CHECK.sentence("splices", before + "count(12) = 1; barn(0, 6) = 1; reel(0, 3) = 1; reel(1, 3) = 0");
        CHECK.sentence("more splices", later + "count(12) = 3; undo(); count(12) = 1; reel(0, 3) = 1; reel(1, 3) = 0");
        CHECK.holds("all is as before", same(before, later + "undo()"));
        CHECK.holds("all is as later", same(later, later + "undo(); perform()"));
        CHECK.holds("all is as kept", same(before, later + "restore()"));
    }

    private static void keepAndRestore() {
        String kept = "restore() = NONE; count(13) = 0; route(d,d,d,-0,g0,s); keep() = 3; count(13) = 1; ";
        String later = kept + "route(d,v1,-1,g1,s); setPrice(9); ";
        CHECK.sentence("restore() is an act", later + "restore() = 3; count(13) = 4; undo() = 3; count(0) = 4");
        CHECK.holds("all is as kept", same(kept, later + "restore()"));
        CHECK.holds("all is as later", same(later, later + "restore(); undo()"));
    }

    private static void snapshotStays() {
        BarnPictures x = new BarnPictures();
        x.keep();
        x.nextDay();
        CHECK.due("restore()", x.restore(), 0);
        CHECK.due("restore() again", x.restore(), 0);
        CHECK.due("both are acts", x.count(13), 3);
        x.nextDay();
        CHECK.due("restore() of the same", x.restore(), 0);
        x.nextDay();
        CHECK.due("keep() in its place", x.keep(), 1);
        x.nextDay();
        CHECK.due("restore()", x.restore(), 1);
    }

    private static void snapshotIsNoPartOfAState() {
        BarnPictures x = new BarnPictures();
        x.nextDay();
        x.keep();
        x.undo();
        CHECK.due("day", x.count(0), 0);
        CHECK.due("the snapshot stays at undo", x.restore(), 1);
        Check.write(x, "d,d");
        x.restore();
        CHECK.due("the text stays at restore", x.count(14), 3);
        CHECK.due("stop", Check.perform(x, "s"), BarnPictures.NOT_POSSIBLE);
        x.restore();
        x.undo();
        CHECK.due("the stop stays", x.stopped(1), -10000012);
    }
}
