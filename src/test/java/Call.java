import java.util.Set;

/** One call, by its method's name and up to two arguments; true is 1, false is 0. */
record Call(String name, int a, int b) {
    /** What the document grants: what an object answers behind so many calls is free. */
    static final int MOST = 512;

    private static final Set<String> ACTS = Set.of(
        "drive", "moveReel", "moveGenerator", "fuel", "renew", "setPrice", "show", "nextDay", "perform", "restore");

    boolean isAct() {
        return ACTS.contains(name);
    }

    int on(BarnPictures x) {
        switch (name) {
            case "drive": return x.drive(a);
            case "moveReel": return x.moveReel(a, b != 0);
            case "moveGenerator": return x.moveGenerator(a, b != 0);
            case "fuel": return x.fuel(a, b);
            case "renew": return x.renew(a);
            case "setPrice": return x.setPrice(a);
            case "show": return x.show(a);
            case "nextDay": return x.nextDay();
            case "type": return x.type((char) a);
            case "clearText": return x.clearText();
            case "perform": return x.perform();
            case "stopped": return x.stopped(a);
            case "undo": return x.undo();
            case "keep": return x.keep();
            case "restore": return x.restore();
            case "reel": return x.reel(a, b);
            case "generator": return x.generator(a, b);
            case "barn": return x.barn(a, b);
            case "bestBarn": return x.bestBarn();
            case "ifPrice": return x.ifPrice(a, b);
            case "showOf": return x.showOf(a, b);
            case "count": return x.count(a);
            default: throw new IllegalArgumentException(name);
        }
    }

    int on(Model model) {
        return model.call(name, a, b);
    }
}
