import java.util.ArrayList;
import java.util.List;
import java.util.Random;

/** Compares many calls by chance, always the same ones, with what the model answers. */
public final class ModelTest {
    private static final int RUNS = 1500;
    private static final Check CHECK = new Check();
    private static final String[] ACTS = {
        "drive", "moveReel", "moveGenerator", "fuel", "renew", "setPrice", "show", "nextDay", "perform", "restore"};
    private static final String[] TELLS = {
        "stopped", "reel", "generator", "barn", "bestBarn", "ifPrice", "showOf", "count"};
    private static final int[] ODD = {
        -1, 5, 6, 9, 10, 15, 99, 100, 501, 505, Integer.MIN_VALUE, Integer.MAX_VALUE, -10000005};

    private final Random chance;
    private final BarnPictures program = new BarnPictures();
    private final Model model = new Model();
    private final int run;
    private final List<Call> calls = new ArrayList<>();

    private ModelTest(int run) {
        this.run = run;
        this.chance = new Random(run);
    }

    public static void main(String[] args) {
        for (int run = 0; run < RUNS; run++) {
            ModelTest test = new ModelTest(run);
            while (test.calls.size() < Call.MOST) {
                test.step();
            }
        }
        CHECK.end();
    }

    private int upTo(int bound) {
        return chance.nextInt(bound);
    }

    private int mostly(int bound) {
        return upTo(25) == 0 ? ODD[upTo(ODD.length)] : upTo(bound);
    }

    /** Runs differ in what they do most, so that some wear their reels out and some only drive. */
    private void step() {
        switch (run % 3) {
            case 0: anyStep(); break;
            case 1: showStep(); break;
            default:
                if (upTo(12) == 0) {
                    routeStep();
                } else {
                    anyStep();
                }
        }
    }

    private void anyStep() {
        int kind = upTo(20);
        if (kind == 0) {
            call("undo", 0, 0);
        } else if (kind == 1) {
            call("keep", 0, 0);
        } else if (kind < 12) {
            act(ACTS[upTo(ACTS.length)]);
        } else {
            tell();
        }
    }

    /** Shows in all barns, on many days. */
    private void showStep() {
        int kind = upTo(30);
        if (kind < 20) {
            call("show", mostly(5), 0);
            call("nextDay", 0, 0);
        } else if (kind < 22) {
            call("fuel", upTo(2), 100);
        } else if (kind < 28) {
            tell();
        } else {
            anyStep();
        }
    }

    private void routeStep() {
        call("clearText", 0, 0);
        String text = route();
        if (upTo(3) == 0) {
            int at = upTo(text.length() + 1);
            text = text.substring(0, at) + (char) (upTo(4) == 0 ? upTo(65536) : "v+-gfsd,:0123456789".charAt(upTo(19)))
                + text.substring(Math.min(text.length(), at + upTo(2)));
        }
        for (char sign : text.toCharArray()) {
            call("type", sign, 0);
        }
        call("perform", 0, 0);
        tell();
    }

    private String route() {
        StringBuilder text = new StringBuilder();
        int commands = 1 + upTo(upTo(4) == 0 ? 40 : 5);
        for (int command = 0; command < commands; command++) {
            text.append(command == 0 ? "" : ",").append(command());
        }
        return text.toString();
    }

    private String command() {
        switch (upTo(8)) {
            case 0: return "v" + upTo(5);
            case 1: return "+" + upTo(10);
            case 2:
            case 3: return "-" + upTo(10);
            case 4: return "g" + upTo(2);
            case 5: return "f" + upTo(2) + ":" + (upTo(4) == 0 ? upTo(560) : 5 + 5 * upTo(12));
            case 6: return "s";
            default: return "d";
        }
    }

    private void act(String name) {
        switch (name) {
            case "moveReel": call(name, mostly(10), upTo(2)); break;
            case "moveGenerator": call(name, mostly(2), upTo(2)); break;
            case "fuel": call(name, mostly(2), upTo(4) == 0 ? mostly(520) : 5 * upTo(60)); break;
            case "renew": call(name, mostly(10), 0); break;
            case "setPrice": call(name, mostly(101), 0); break;
            default: call(name, mostly(5), 0);
        }
    }

    private void tell() {
        String name = TELLS[upTo(TELLS.length)];
        switch (name) {
            case "stopped": call(name, mostly(2), 0); break;
            case "reel": call(name, mostly(10), mostly(6)); break;
            case "generator": call(name, mostly(2), mostly(2)); break;
            case "barn": call(name, mostly(5), mostly(9)); break;
            case "ifPrice": call(name, mostly(5), mostly(100)); break;
            case "showOf": call(name, mostly(8), mostly(5)); break;
            default: call(name, mostly(15), 0);
        }
    }

    private void call(String name, int a, int b) {
        if (calls.size() >= Call.MOST) {
            return;
        }
        Call call = new Call(name, a, b);
        int answer = call.on(program);
        String told = "run " + run + ", call " + (calls.size() + 1) + ": " + call;
        CHECK.due(told, answer, call.on(model));
        // Now and then a call is looked at more closely; it is dear, as objects are made anew for it.
        if (calls.size() < World.MOST_BEFORE && upTo(150) == 0) {
            CHECK.looksBehind(told, calls, call, answer);
        }
        calls.add(call);
    }
}
