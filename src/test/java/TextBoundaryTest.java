/** The boundaries that the document's "TEXTS" and the promises 10 to 13 name, sentence by sentence. */
public final class TextBoundaryTest {
    private static final Check CHECK = new Check();

    public static void main(String[] args) {
        room();
        commas();
        numbers();
        minutes();
        fault();
        type();
        clearText();
        perform();
        whatStops();
        stopped();
        CHECK.end();
    }

    private static void room() {
        CHECK.sentence("There is a text of at most 80 characters", "text(" + "d,".repeat(39) + "d); count(14) = 79; "
            + "type(44) = 80; type(100) = FULL; type(44) = FULL; count(14) = 80; perform() = FAULT-80; clearText() = 80; "
            + "type(100) = 1; perform() = 1; count(0) = 1");
        CHECK.sentence("a text of 80 characters is performed", "route(" + "d,".repeat(39) + "v1) = 40; count(14) = 80; "
            + "count(0) = 39; count(1) = 1; type(44) = FULL; perform() = 40; count(0) = 78");
        CHECK.sentence("empty at first", "count(14) = 0; clearText() = 0; perform() = FAULT; count(14) = 0");
        CHECK.sentence("any character", "type(0) = 1; type(65535) = 2; type(256) = 3; type(127) = 4; perform() = FAULT; "
            + "clearText() = 4; type(100) = 1; type(0) = 2; perform() = FAULT-1");
        // 356, 612 and 65380 are told from 'd', 100, by more than their 8 lowest bits, 1632 is a digit 0 elsewhere.
        CHECK.sentence("a character is not cut", "type(356) = 1; perform() = FAULT; clearText(); type(612) = 1; "
            + "perform() = FAULT; clearText(); type(65380) = 1; perform() = FAULT; clearText(); type(43); type(1632) = 2; "
            + "perform() = FAULT-1");
    }

    private static void commas() {
        CHECK.sentence("A route is one or more commands", "route() = FAULT; route(d) = 1; route(d,d) = 2; route(s,) = FAULT-2");
        CHECK.sentence("with \",\" between two", "route(,) = FAULT; route(,d) = FAULT; route(d,) = FAULT-2; "
            + "route(d,,d) = FAULT-2; route(dd) = FAULT-1; route(d.d) = FAULT-1; route(d d) = FAULT-1; "
            + "route(d, d) = FAULT-2; route(v1v2) = FAULT-2; route(+1-1) = FAULT-2; route(g0g1) = FAULT-2; "
            + "route(f0:5f0:5) = FAULT-4; route( d) = FAULT; route(d ) = FAULT-1");
    }

    private static void numbers() {
        CHECK.sentence("\"v\" and a barn (0 to 4)", "route(v) = FAULT-1; route(v5) = FAULT-1; route(v9) = FAULT-1; "
            + "route(v/) = FAULT-1; route(v:) = FAULT-1; route(v-1) = FAULT-1; route(v,) = FAULT-1; route(v00) = FAULT-2; "
            + "route(v10) = FAULT-2; route(V1) = FAULT; route(1) = FAULT; route(v0) = 1; route(v4) = 1; count(1) = 4; "
            + "route(v0,v5) = FAULT-4; count(1) = 4");
        CHECK.sentence("\"+\" and a reel (0 to 9)", "route(+) = FAULT-1; route(+/) = FAULT-1; route(+:) = FAULT-1; "
            + "route(+-) = FAULT-1; route(++) = FAULT-1; route(+,) = FAULT-1; route(+10) = FAULT-2; route(+0) = 1; "
            + "route(-0,-1,-2,-9,g0) = 5; count(2) = 7; route(+9) = 1; reel(9, 0) = NONE; route(+0) = NOT_POSSIBLE; "
            + "stopped(1) = FULL");
        CHECK.sentence("\"-\" and a reel (0 to 9)", "route(-) = FAULT-1; route(-/) = FAULT-1; route(-:) = FAULT-1; "
            + "route(--) = FAULT-1; route(-,) = FAULT-1; route(-10) = FAULT-2; route(-0) = 1; reel(0, 0) = 0; "
            + "route(v3,-9) = 2; reel(9, 0) = 3; route(-9) = 1; count(2) = 10");
        CHECK.sentence("\"g\" and a generator (0 or 1)", "route(g) = FAULT-1; route(g2) = FAULT-1; route(g/) = FAULT-1; "
            + "route(g,) = FAULT-1; route(g00) = FAULT-2; route(g11) = FAULT-2; route(g0) = 1; generator(0, 0) = 0; "
            + "route(v2,g1) = 2; generator(1, 0) = 2");
        CHECK.sentence("it is put into the barn, if it is in the van, otherwise taken into it",
            "route(g0,-0,-1,-2) = 4; count(2) = 8; route(g0) = NOT_POSSIBLE; stopped(1) = FULL; route(-3,g0) = 2; "
            + "generator(0, 0) = NONE; count(2) = 8; route(g0,v1,g0) = NOT_POSSIBLE; stopped(0) = 2; "
            + "stopped(1) = NOT_POSSIBLE; generator(0, 0) = NONE; count(1) = 0");
        CHECK.sentence("\"s\": a show of the barn at which the van is", "route(s0) = FAULT-1; route(s) = NOT_POSSIBLE; "
            + "stopped(1) = NO_SHOW-2; route(v4,-0,g0,s) = 4; showOf(0, 1) = 4; route(v0,s) = NOT_POSSIBLE; "
            + "route(v4,s) = NOT_POSSIBLE; stopped(1) = NO_SHOW-1; route(d,v4,s) = 3; count(9) = 2");
        CHECK.sentence("\"d\": the next day begins", "route(d1) = FAULT-1; route(D) = FAULT; route(d) = 1; count(0) = 1; "
            + "route(d,d) = 2; count(0) = 3");
    }

    private static void minutes() {
        CHECK.sentence("\"f\", a generator, \":\" and minutes", "route(f) = FAULT-1; route(f,) = FAULT-1; "
            + "route(f2) = FAULT-1; route(f2:5) = FAULT-1; route(f9:5) = FAULT-1; route(f:5) = FAULT-1; "
            + "route(f/:5) = FAULT-1; route(f0) = FAULT-2; route(f05) = FAULT-2; route(f0,) = FAULT-2; "
            + "route(f00:5) = FAULT-2; route(f0:) = FAULT-3; route(f0:,) = FAULT-3; "
            + "route(f0::5) = FAULT-3; route(f1:5) = 1; generator(1, 1) = 65; generator(0, 1) = 60");
        CHECK.sentence("minutes (5 to 500, with their last digit 0 or 5): the least", "route(f0:0) = FAULT-3; "
            + "route(f0:1) = FAULT-4; route(f0:4) = FAULT-4; route(f0:4,d) = FAULT-4; route(f0:6) = FAULT-4; "
            + "route(f0:6,d) = FAULT-4; route(f0:5) = 1; generator(0, 1) = 65; route(f0:10) = 1; generator(0, 1) = 75; "
            + "route(f0:-5) = FAULT-3; route(f0:+5) = FAULT-3");
        CHECK.sentence("minutes (5 to 500, with their last digit 0 or 5): the most", "route(f0:500) = NOT_POSSIBLE; "
            + "stopped(1) = FULL; route(f0:495) = NOT_POSSIBLE; route(f0:499) = FAULT-6; route(f0:501) = FAULT-5; "
            + "route(f0:505) = FAULT-5; route(f0:510) = FAULT-5; route(f0:600) = FAULT-5; route(f0:1000) = FAULT-6; "
            + "route(f0:5000) = FAULT-6; route(f0:440) = 1; generator(0, 1) = 500");
        CHECK.sentence("f and 500, when the tank is empty", "route(-2,-4,-5,-9,-0,g0,s,g0) = 8; route(f0:500) = 1; "
            + "generator(0, 1) = 500; count(6) = 100");
        CHECK.sentence("Minutes do not begin with 0", "route(f0:0) = FAULT-3; route(f0:05) = FAULT-3; route(f0:00) = FAULT-3; "
            + "route(f0:0,d) = FAULT-3; route(f1:010) = FAULT-3; route(d,f1:05) = FAULT-5");
        CHECK.sentence("a digit by which a number would be greater than told is not allowed", "route(f0:501) = FAULT-5; "
            + "route(f0:509) = FAULT-5; route(f0:51) = FAULT-5; route(f0:50) = 1; route(f0:99) = FAULT-5; "
            + "route(f0:999) = FAULT-5; route(f0:500,f0:501) = FAULT-12; route(f0:4999) = FAULT-6; route(f0:4950) = FAULT-6");
        CHECK.sentence("minutes that end with another digit are a fault behind it", "route(f0:7,d) = FAULT-4; "
            + "route(f0:12,d) = FAULT-5; route(f0:123,d) = FAULT-6; route(f0:498,d) = FAULT-6; route(f0:51,d) = FAULT-5; "
            + "route(f0:12x) = FAULT-5; route(f0:7s) = FAULT-4; route(f0:15x) = FAULT-5");
    }

    private static void fault() {
        CHECK.sentence("the index, from 0, of the first character that is not allowed at its place", "route(x) = FAULT; "
            + "route(vx) = FAULT-1; route(v1x) = FAULT-2; route(v1,x) = FAULT-3; route(x,y) = FAULT; "
            + "route(d,v1,-3,x,y) = FAULT-8; route(v5,x) = FAULT-1; count(0) = 0");
        CHECK.sentence("or the length of the text if it ends too early", "route(v) = FAULT-1; route(d,) = FAULT-2; "
            + "route(d,v) = FAULT-3; route(d,+) = FAULT-3; route(d,-) = FAULT-3; route(d,g) = FAULT-3; route(d,f) = FAULT-3; "
            + "route(d,f1) = FAULT-4; route(d,f1:) = FAULT-5; count(0) = 0");
        CHECK.sentence("(the empty text does, and one that ends with such minutes)", "route() = FAULT; "
            + "route(f0:7) = FAULT-4; route(f0:12) = FAULT-5; route(f0:499) = FAULT-6; route(d,f1:3) = FAULT-6");
        CHECK.sentence("the length of a full text", "route(" + "d,".repeat(40) + ") = FAULT-80; count(14) = 80; count(0) = 0");
        CHECK.sentence("the length of a full text", "route(" + "d,".repeat(38) + "f0:1) = FAULT-80; count(14) = 80");
        CHECK.sentence("the last character of a full text", "route(" + "d,".repeat(39) + "dd) = FAULT-79; count(14) = 80");
        CHECK.sentence("a fault behind commands that would be stopped", "route(s,s,x) = FAULT-4; stopped(0) = NONE; "
            + "stopped(1) = NONE; route(-9,+9,v4,d,d,) = FAULT-13; count(0) = 0; count(13) = 0");
    }

    private static void type() {
        CHECK.sentence("Returns the length of the text then", "type(100) = 1; type(44) = 2; type(100) = 3; count(14) = 3; "
            + "perform() = 2; type(44) = 4; perform() = FAULT-4; type(118) = 5; type(49) = 6; perform() = 3; count(1) = 1");
        CHECK.sentence("FULL if it has 80 characters", "type(1); ".repeat(79) + "count(14) = 79; type(1) = 80; "
            + "type(1) = FULL; type(65535) = FULL; count(14) = 80; clearText() = 80; count(14) = 0; type(1) = 1");
    }

    private static void clearText() {
        CHECK.sentence("Empties the text. Returns the length that it had", "clearText() = 0; type(100) = 1; "
            + "clearText() = 1; clearText() = 0; count(14) = 0; perform() = FAULT; more(v2) ; perform() = 1; count(14) = 2; "
            + "clearText() = 2; count(1) = 2; count(13) = 1");
    }

    private static void perform() {
        CHECK.sentence("Does the commands of the text, which stays", "route(d,v1) = 2; count(14) = 4; perform() = 2; "
            + "count(0) = 2; count(14) = 4; route(s) = NOT_POSSIBLE; count(14) = 1; perform() = NOT_POSSIBLE; "
            + "route(d,x) = FAULT-2; count(14) = 3; perform() = FAULT-2");
        CHECK.sentence("one after the other", "route(v1,-0,v2,-1,g0,s,v1,g1,s,v0) = 10; reel(0, 0) = 1; reel(1, 0) = 2; "
            + "showOf(0, 1) = 1; showOf(1, 1) = 2; count(1) = 0; count(5) = 40; count(4) = 560");
        CHECK.sentence("all of them, or none: the last one is stopped", "setPrice(9); "
            + "route(f0:5,v2,-0,g0,s,d,s,d,s,s) = NOT_POSSIBLE; stopped(0) = 9; stopped(1) = NO_SHOW-1; count(0) = 0; "
            + "count(1) = 0; count(2) = 12; count(4) = 0; count(5) = 0; count(6) = 0; count(8) = 0; count(9) = 0; "
            + "count(10) = 0; count(11) = 9; count(13) = 1; reel(0, 0) = NONE; reel(0, 2) = 0; reel(0, 4) = 0; "
            + "generator(0, 0) = NONE; generator(0, 1) = 60; barn(2, 7) = 0; barn(2, 8) = 0; showOf(0, 0) = NONE; "
            + "undo() = 0; count(11) = 4");
        CHECK.sentence("all of them, or none: splices and gone reels", "route(f0:300,-0,g0); route(s,d,s,d,s,d,s,d); "
            + "perform(); perform(); perform(); perform(); perform(); count(12) = 5; reel(0, 1) = 3; reel(0, 2) = 20; "
            + "route(s,d,s,d,s,d,s,d,+0) = NOT_POSSIBLE; stopped(0) = 8; stopped(1) = UNKNOWN; count(3) = 0; "
            + "count(12) = 5; reel(0, 1) = 3; reel(0, 2) = 20; route(s,d,s,d,s,d,s,d) = 8; count(3) = 1; count(12) = 6; "
            + "undo() = 3; count(3) = 0; count(12) = 5; reel(0, 1) = 3");
        CHECK.sentence("This is one act", "setPrice(7); route(d,d,v4,-1,-2,d) = 6; count(13) = 2; undo() = 1; count(0) = 0; "
            + "count(1) = 0; count(2) = 12; count(11) = 7");
        CHECK.sentence("one that would return NONE does nothing", "route(v0) = 1; count(13) = 1; route(v0,+0,+9,v0) = 4; "
            + "count(13) = 2; count(5) = 0; stopped(0) = NONE; route(-0,-0,v1,v1) = 4; count(2) = 11; count(5) = 8; "
            + "route(v1,v1,-0) = NOT_POSSIBLE; stopped(0) = 2; undo() = 2; count(1) = 0");
        CHECK.sentence("Returns how many commands there are", "route(d) = 1; route(d,d) = 2; route(" + "d,".repeat(39)
            + "d) = 40; count(0) = 43");
        CHECK.sentence("-10000200 minus the fault (which is an error)", "route() = -10000200; route(v5) = -10000201; "
            + "route(" + "d,".repeat(40) + ") = -10000280; count(13) = 0");
    }

    private static void whatStops() {
        CHECK.sentence("NOT_POSSIBLE if any is stopped: the first one", "route(s,d) = NOT_POSSIBLE; stopped(0) = 0; "
            + "stopped(1) = NO_SHOW-2; count(0) = 0");
        CHECK.sentence("One whose method would return an error stops it: shows", "route(-0,s) = NOT_POSSIBLE; "
            + "stopped(0) = 1; stopped(1) = NO_SHOW-3; route(-2,-4,-5,-9,-1,g0,s) = NOT_POSSIBLE; stopped(0) = 6; "
            + "stopped(1) = NO_SHOW-4; route(-0,g0,s,d,s,s) = NOT_POSSIBLE; stopped(0) = 5; stopped(1) = NO_SHOW-1; "
            + "route(s) = NOT_POSSIBLE; stopped(0) = 0; stopped(1) = NO_SHOW-2");
        CHECK.sentence("One whose method would return an error stops it: things", "route(-0,+0) = NOT_POSSIBLE; "
            + "stopped(0) = 1; stopped(1) = FULL; route(-0,v1,+0) = NOT_POSSIBLE; stopped(0) = 2; "
            + "stopped(1) = NOT_POSSIBLE; route(-0,v1,-0) = NOT_POSSIBLE; stopped(1) = NOT_POSSIBLE; "
            + "route(g1,g1) = NOT_POSSIBLE; stopped(0) = 1; stopped(1) = FULL; count(2) = 12; count(1) = 0");
        CHECK.sentence("One whose method would return an error stops it: fuel", "route(f0:440,f0:5) = NOT_POSSIBLE; "
            + "stopped(0) = 1; stopped(1) = FULL; generator(0, 1) = 60; route(g0,f0:5) = NOT_POSSIBLE; "
            + "stopped(1) = NOT_POSSIBLE; generator(0, 0) = NONE; count(6) = 0");
        CHECK.sentence("One whose method would return an error stops it: the last day", "text(" + "d,".repeat(38) + "d); "
            + "perform(); more(,d); " + "perform(); ".repeat(249) + "count(0) = 9999; perform() = NOT_POSSIBLE; "
            + "stopped(0) = 0; stopped(1) = FULL; undo() = 3; count(0) = 9959; undo() = 2; count(0) = 9919; "
            + "perform(); perform(); perform() = NOT_POSSIBLE; count(0) = 9999; stopped(0) = 0");
    }

    private static void stopped() {
        CHECK.sentence("stopped: BAD_VALUE; NONE if none was stopped yet", "stopped(-1) = BAD_VALUE; stopped(2) = BAD_VALUE; "
            + "stopped(MIN) = BAD_VALUE; stopped(MAX) = BAD_VALUE; stopped(0) = NONE; stopped(1) = NONE; route(d) = 1; "
            + "stopped(0) = NONE; route(x) = FAULT; stopped(0) = NONE; stopped(1) = NONE; show(0) = NO_SHOW-2; "
            + "drive(9) = UNKNOWN; stopped(1) = NONE; route(s) = NOT_POSSIBLE; stopped(0) = 0; stopped(1) = NO_SHOW-2; "
            + "stopped(-1) = BAD_VALUE; stopped(2) = BAD_VALUE");
        CHECK.sentence("the number of the command in its text, from 0", "route(" + "d,".repeat(39) + "s) = NOT_POSSIBLE; "
            + "stopped(0) = 39; stopped(1) = NO_SHOW-2; count(0) = 0");
        CHECK.sentence("Tells of the latest stop of perform()", "route(s) = NOT_POSSIBLE; "
            + "route(d,f0:445) = NOT_POSSIBLE; stopped(0) = 1; stopped(1) = FULL; route(d) = 1; stopped(0) = 1; "
            + "route(x) = FAULT; stopped(1) = FULL; clearText() = 1; stopped(0) = 1; undo() = 0; stopped(1) = FULL; "
            + "show(3) = NO_SHOW-2; stopped(1) = FULL; route(s) = NOT_POSSIBLE; stopped(0) = 0; stopped(1) = NO_SHOW-2");
    }
}
