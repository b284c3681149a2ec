import java.util.Random;

/** Compares many calls by chance, always the same ones, with what the model answers. */
public final class ModelTest {
    private static final int RUNS = 1500;
    private static final int CALLS = 512;
    private static final Check CHECK = new Check();
    private static final String[] ACTS = {
        "drive", "moveReel", "moveGenerator", "fuel", "renew", "setPrice", "show", "nextDay", "perform", "restore"};
    private static final String[] TELLS = {
        "stopped", "reel", "generator", "barn", "bestBarn", "ifPrice", "showOf", "count"};
    private static final int[] ODD = {
        -1, 5, 6, 9, 10, 15, 99, 100, 501, 505, Integer.MIN_VALUE, Integer.MAX_VALUE, -10000005};

    private final Random chance;
    private final BarnPictures program = new BarnPictures();
    private final Model model = new Model();
    private final int run;
    private int calls = 0;

    private ModelTest(int run) {
        this.run = run;
        this.chance = new Random(run);
    }

    public static void main(String[] args) {
        for (int run = 0; run < RUNS; run++) {
            ModelTest test = new ModelTest(run);
            while (test.calls < CALLS) {
                test.step();
            }
        }
        CHECK.end();
    }

    private int upTo(int bound) {
        return chance.nextInt(bound);
    }

    private int mostly(int bound) {
        return upTo(25) == 0 ? ODD[upTo(ODD.length)] : upTo(bound);
    }

    /** Runs differ in what they do most, so that some wear their reels out and some only drive. */
    private void step() {
        switch (run % 3) {
            case 0: anyStep(); break;
            case 1: showStep(); break;
            default:
                if (upTo(12) == 0) {
                    routeStep();
                } else {
                    anyStep();
                }
        }
    }

    private void anyStep() {
        int kind = upTo(20);
        if (kind == 0) {
            call("undo", 0, 0);
        } else if (kind == 1) {
            call("keep", 0, 0);
        } else if (kind < 12) {
            act(ACTS[upTo(ACTS.length)]);
        } else {
            tell();
        }
    }

    /** Shows in all barns, on many days. */
    private void showStep() {
        int kind = upTo(30);
        if (kind < 20) {
            call("show", mostly(5), 0);
            call("nextDay", 0, 0);
        } else if (kind < 22) {
            call("fuel", upTo(2), 100);
        } else if (kind < 28) {
            tell();
        } else {
            anyStep();
        }
    }

    private void routeStep() {
        call("clearText", 0, 0);
        String text = route();
        if (upTo(3) == 0) {
            int at = upTo(text.length() + 1);
            text = text.substring(0, at) + (char) (upTo(4) == 0 ? upTo(65536) : "v+-gfsd,:0123456789".charAt(upTo(19)))
                + text.substring(Math.min(text.length(), at + upTo(2)));
        }
        for (char sign : text.toCharArray()) {
            call("type", sign, 0);
        }
        call("perform", 0, 0);
        tell();
    }

    private String route() {
        StringBuilder text = new StringBuilder();
        int commands = 1 + upTo(upTo(4) == 0 ? 40 : 5);
        for (int command = 0; command < commands; command++) {
            text.append(command == 0 ? "" : ",").append(command());
        }
        return text.toString();
    }

    private String command() {
        switch (upTo(8)) {
            case 0: return "v" + upTo(5);
            case 1: return "+" + upTo(10);
            case 2:
            case 3: return "-" + upTo(10);
            case 4: return "g" + upTo(2);
            case 5: return "f" + upTo(2) + ":" + (upTo(4) == 0 ? upTo(560) : 5 + 5 * upTo(12));
            case 6: return "s";
            default: return "d";
        }
    }

    private void act(String name) {
        switch (name) {
            case "moveReel": call(name, mostly(10), upTo(2)); break;
            case "moveGenerator": call(name, mostly(2), upTo(2)); break;
            case "fuel": call(name, mostly(2), upTo(4) == 0 ? mostly(520) : 5 * upTo(60)); break;
            case "renew": call(name, mostly(10), 0); break;
            case "setPrice": call(name, mostly(101), 0); break;
            default: call(name, mostly(5), 0);
        }
    }

    private void tell() {
        String name = TELLS[upTo(TELLS.length)];
        switch (name) {
            case "stopped": call(name, mostly(2), 0); break;
            case "reel": call(name, mostly(10), mostly(6)); break;
            case "generator": call(name, mostly(2), mostly(2)); break;
            case "barn": call(name, mostly(5), mostly(9)); break;
            case "ifPrice": call(name, mostly(5), mostly(100)); break;
            case "showOf": call(name, mostly(8), mostly(5)); break;
            default: call(name, mostly(15), 0);
        }
    }

    private void call(String name, int a, int b) {
        if (calls >= CALLS) {
            return;
        }
        calls++;
        // Now and then a call that is refused is looked at more closely: it must change nothing.
        boolean closely = upTo(10) == 0 && !name.equals("perform");
        String before = closely ? World.wholeOf(program) : "";
        int answer = asked(name, a, b);
        String told = "run " + run + ", call " + calls + ": " + name + "(" + a + ", " + b + ")";
        CHECK.due(told, answer, model.call(name, a, b));
        if (closely && answer < 0) {
            CHECK.due("nothing is changed by " + name, before.equals(World.wholeOf(program)) ? 1 : 0, 1);
        }
    }

    private int asked(String name, int a, int b) {
        switch (name) {
            case "drive": return program.drive(a);
            case "moveReel": return program.moveReel(a, b != 0);
            case "moveGenerator": return program.moveGenerator(a, b != 0);
            case "fuel": return program.fuel(a, b);
            case "renew": return program.renew(a);
            case "setPrice": return program.setPrice(a);
            case "show": return program.show(a);
            case "nextDay": return program.nextDay();
            case "type": return program.type((char) a);
            case "clearText": return program.clearText();
            case "perform": return program.perform();
            case "stopped": return program.stopped(a);
            case "undo": return program.undo();
            case "keep": return program.keep();
            case "restore": return program.restore();
            case "reel": return program.reel(a, b);
            case "generator": return program.generator(a, b);
            case "barn": return program.barn(a, b);
            case "bestBarn": return program.bestBarn();
            case "ifPrice": return program.ifPrice(a, b);
            case "showOf": return program.showOf(a, b);
            case "count": return program.count(a);
            default: throw new IllegalArgumentException(name);
        }
    }
}
