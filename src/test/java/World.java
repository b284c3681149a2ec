/** Tells all that can be asked of an object's state, to compare it with another time's. */
final class World {
    private World() {
    }

    /** Neither the history, the text, the snapshot nor the latest stop is told. */
    static String told(BarnPictures x) {
        StringBuilder all = new StringBuilder();
        for (int reel = 0; reel < 10; reel++) {
            for (int what = 0; what < 6; what++) {
                all.append(x.reel(reel, what)).append(' ');
            }
        }
        for (int generator = 0; generator < 2; generator++) {
            for (int what = 0; what < 2; what++) {
                all.append(x.generator(generator, what)).append(' ');
            }
        }
        for (int barn = 0; barn < 5; barn++) {
            for (int what = 0; what < 9; what++) {
                all.append(x.barn(barn, what)).append(' ');
            }
        }
        for (int back = 0; back < 7; back++) {
            for (int what = 0; what < 5; what++) {
                all.append(x.showOf(back, what)).append(' ');
            }
        }
        for (int what = 0; what < 13; what++) {
            all.append(x.count(what)).append(' ');
        }
        return all.append(x.bestBarn()).toString();
    }

    /** All that is told, and the history, the text and the latest stop too. */
    static String wholeOf(BarnPictures x) {
        return told(x) + " " + x.count(13) + " " + x.count(14) + " " + x.stopped(0) + " " + x.stopped(1);
    }
}
