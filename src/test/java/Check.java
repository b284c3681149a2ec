/** Counts the answers of a test that are not the ones that are due. */
final class Check {
    private int checks = 0;
    private int wrong = 0;

    void due(String call, int got, int want) {
        checks++;
        if (got != want) {
            wrong++;
            System.out.println(call + " answered " + got + ", due is " + want);
        }
    }

    /** Types a text in place of the one that was. */
    static void write(BarnPictures x, String text) {
        x.clearText();
        for (char character : text.toCharArray()) {
            x.type(character);
        }
    }

    /** Performs a text that is typed in place of the one that was. */
    static int perform(BarnPictures x, String text) {
        write(x, text);
        return x.perform();
    }

    /** Performs a text that a test needs to go through. */
    void through(BarnPictures x, String text) {
        int commands = text.split(",").length;
        due("perform() of " + text, perform(x, text), commands);
    }

    void end() {
        System.out.println(checks + " answers looked at, " + wrong + " not as due");
        if (wrong != 0 || checks == 0) {
            System.exit(1);
        }
    }
}
