import java.util.ArrayList;
import java.util.List;

/** Counts the answers of a test that are not the ones that are due. */
final class Check {
    private int checks = 0;
    private int wrong = 0;

    void due(String call, int got, int want) {
        checks++;
        if (got != want) {
            wrong++;
            System.out.println(call + " answered " + got + ", due is " + want);
        }
    }

    void holds(String what, boolean so) {
        checks++;
        if (!so) {
            wrong++;
            System.out.println("it does not hold: " + what);
        }
    }

    /** Types a text in place of the one that was. */
    static void write(BarnPictures x, String text) {
        x.clearText();
        for (char character : text.toCharArray()) {
            x.type(character);
        }
    }

    /** Performs a text that is typed in place of the one that was. */
    static int perform(BarnPictures x, String text) {
        write(x, text);
        return x.perform();
    }

    /** Performs a text that a test needs to go through. */
    void through(BarnPictures x, String text) {
        int commands = text.split(",").length;
        due("perform() of " + text, perform(x, text), commands);
    }

    /**
     * Looks at a sentence of the document by a run of calls on a new object (see Script), and at what
     * the document says of every call: what is refused changes nothing, an act can be undone.
     */
    void sentence(String sentence, String run) {
        BarnPictures program = new BarnPictures();
        Model model = new Model();
        List<Call> calls = new ArrayList<>();
        for (Script.Step step : new Script(run).steps()) {
            String told = "\"" + sentence + "\": call " + (calls.size() + 1) + ", " + step.told();
            int answer = step.call().on(program);
            if (step.due() == null) {
                holds(told + " is to go through, but answered " + answer, answer >= 0);
            } else {
                due(told, answer, step.due());
            }
            due(told + " of the model", step.call().on(model), answer);
            if (step.named() && calls.size() < World.MOST_BEFORE) {
                looksBehind(told, calls, step.call(), answer);
            }
            calls.add(step.call());
        }
        holds(calls.size() + " calls are not too many: " + sentence, calls.size() <= Call.MOST);
    }

    /** Looks at what a call has changed, by objects that have had the calls before it, and it. */
    void looksBehind(String told, List<Call> before, Call call, int answer) {
        List<Call> behind = World.with(before, call);
        if (answer < 0) {
            holds("refused, it changes nothing: " + told, World.deeplyTold(before).equals(World.deeplyTold(behind)));
            boolean stops = call.name().equals("perform") && answer == BarnPictures.NOT_POSSIBLE;
            holds("the stop stays: " + told, stops || World.stop(before).equals(World.stop(behind)));
        } else if (call.isAct()) {
            String was = World.told(before);
            holds("undo() of it: " + told, was.equals(World.told(World.with(behind, new Call("undo", 0, 0)))));
            int states = Math.min(World.after(before).count(13) + 1, 4);
            due("states in the history: " + told, World.after(behind).count(13), states);
        } else if (!call.name().equals("undo")) {
            holds("it changes no state: " + told, World.told(before).equals(World.told(behind)));
            due("states in the history: " + told, World.after(behind).count(13), World.after(before).count(13));
        }
    }

    void end() {
        System.out.println(checks + " answers looked at, " + wrong + " not as due");
        if (wrong != 0 || checks == 0) {
            System.exit(1);
        }
    }
}
