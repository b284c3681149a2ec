import java.util.ArrayList;
import java.util.List;

/** Tells all that can be asked of an object's state, to compare it with another time's. */
final class World {
    /** Behind more calls than this, an object has not enough left to be told as deeply as here. */
    static final int MOST_BEFORE = Call.MOST - 172;
    private static final int[][] KINDS = {{10, 6}, {2, 2}, {5, 9}, {7, 5}};

    private World() {
    }

    /** A new object that has had these calls. */
    static BarnPictures after(List<Call> calls) {
        BarnPictures x = new BarnPictures();
        for (Call call : calls) {
            call.on(x);
        }
        return x;
    }

    static List<Call> with(List<Call> calls, Call more) {
        List<Call> all = new ArrayList<>(calls);
        all.add(more);
        return all;
    }

    /** A state: neither the history, the text, the snapshot nor the latest stop is told. */
    static String told(BarnPictures x) {
        StringBuilder all = new StringBuilder();
        for (int kind = 0; kind < KINDS.length; kind++) {
            for (int number = 0; number < KINDS[kind][0]; number++) {
                for (int what = 0; what < KINDS[kind][1]; what++) {
                    all.append(asked(x, kind, number, what)).append(' ');
                }
            }
        }
        for (int what = 0; what < 13; what++) {
            all.append(x.count(what)).append(' ');
        }
        return all.append(x.bestBarn()).toString();
    }

    private static int asked(BarnPictures x, int kind, int number, int what) {
        switch (kind) {
            case 0: return x.reel(number, what);
            case 1: return x.generator(number, what);
            case 2: return x.barn(number, what);
            default: return x.showOf(number, what);
        }
    }

    static String told(List<Call> calls) {
        return told(after(calls));
    }

    /**
     * All that calls leave but the latest stop: the state, each state of the history, the snapshot and
     * the text. Each of them is told of an object of its own, as telling costs calls too.
     */
    static String deeplyTold(List<Call> calls) {
        BarnPictures now = after(calls);
        StringBuilder all = new StringBuilder(told(now));
        all.append(" history ").append(now.count(13)).append(" text ").append(now.count(14));
        for (int undone = 1; undone <= 5; undone++) {
            BarnPictures x = after(calls);
            for (int times = 0; times < undone; times++) {
                all.append(" undo ").append(x.undo());
            }
            all.append(": ").append(told(x));
        }
        BarnPictures restored = after(calls);
        all.append(" restore ").append(restored.restore()).append(": ").append(told(restored));
        BarnPictures performed = after(calls);
        all.append(" perform ").append(performed.perform()).append(": ").append(told(performed));
        return all.toString();
    }

    static String stop(List<Call> calls) {
        BarnPictures x = after(calls);
        return x.stopped(0) + " by " + x.stopped(1);
    }
}
