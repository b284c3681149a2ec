import java.util.ArrayList;
import java.util.List;
import java.util.Map;
import java.util.regex.Matcher;
import java.util.regex.Pattern;

/**
 * A run of calls on a new object, read from a text such as "drive(2) = 20; drive(2) = NONE".
 *
 * <p>A call without "=" sets something up: it may answer whatever is no error and not NONE. There
 * are three calls more than the program has: text(v1,d) types a text in place of the one that was,
 * route(v1,d) performs it too, and more(,d) types behind the text that is there.
 */
final class Script {
    private static final Pattern STEP = Pattern.compile("(\\w+)\\((.*)\\)(?: *= *([A-Z_]*)([+-]?\\d+)?)?");
    private static final Map<String, Integer> NAMES = Map.of(
        "UNKNOWN", BarnPictures.UNKNOWN, "BAD_VALUE", BarnPictures.BAD_VALUE, "FULL", BarnPictures.FULL,
        "NOT_POSSIBLE", BarnPictures.NOT_POSSIBLE, "NONE", BarnPictures.NONE, "NO_SHOW", BarnPictures.NO_SHOW,
        "FAULT", -10000200, "", 0);

    /** A call with its due answer (null: any that is no error), and whether a test names it by itself. */
    record Step(Call call, String told, Integer due, boolean named) {
    }

    private final List<Step> steps = new ArrayList<>();

    Script(String run) {
        for (String step : run.split(";")) {
            if (!step.isBlank()) {
                read(step.strip());
            }
        }
    }

    List<Step> steps() {
        return steps;
    }

    static List<Call> calls(String run) {
        List<Call> calls = new ArrayList<>();
        for (Step step : new Script(run).steps) {
            calls.add(step.call());
        }
        return calls;
    }

    private void read(String told) {
        Matcher step = STEP.matcher(told);
        if (!step.matches()) {
            throw new IllegalArgumentException(told);
        }
        Integer due = step.group(3) == null ? null
            : NAMES.get(step.group(3)) + (step.group(4) == null ? 0 : Integer.parseInt(step.group(4)));
        String name = step.group(1);
        String arguments = step.group(2);
        switch (name) {
            case "text": types(told, arguments, true); break;
            case "more": types(told, arguments, false); break;
            case "route":
                types(told, arguments, true);
                steps.add(new Step(new Call("perform", 0, 0), told, due, true));
                break;
            default:
                String[] parts = (arguments + ",").split(" *, *");
                int b = parts.length > 1 ? number(parts[1]) : 0;
                steps.add(new Step(new Call(name, parts.length > 0 ? number(parts[0]) : 0, b), told, due, true));
        }
    }

    private void types(String told, String text, boolean anew) {
        if (anew) {
            steps.add(new Step(new Call("clearText", 0, 0), told, null, false));
        }
        for (char sign : text.toCharArray()) {
            steps.add(new Step(new Call("type", sign, 0), told, null, false));
        }
    }

    private static int number(String argument) {
        switch (argument) {
            case "": return 0;
            case "true": return 1;
            case "false": return 0;
            case "MIN": return Integer.MIN_VALUE;
            case "MAX": return Integer.MAX_VALUE;
            default: return Integer.parseInt(argument);
        }
    }
}
