import java.util.ArrayDeque;
import java.util.ArrayList;
import java.util.Deque;
import java.util.LinkedHashMap;
import java.util.List;
import java.util.Map;
import java.util.TreeMap;

/**
 * The same document written a second time, in another way: states are values that are copied
 * whole, a text is looked at by a table of what may come next. It is there to be compared with.
 */
final class Model {
    private static final int[] MILES = {0, 8, 20, 26, 45};
    private static final int[] SEATS = {40, 60, 80, 50, 30};
    private static final int VAN = 99;

    /** A state: numbers by their names, so that a copy needs no list of fields. */
    private Map<String, Integer> now = new TreeMap<>();
    private List<int[]> shows = new ArrayList<>();
    private final Deque<Saved> history = new ArrayDeque<>();
    private Saved snapshot = null;
    private String text = "";
    private int[] stop = null;

    private record Saved(Map<String, Integer> numbers, List<int[]> shows) {
    }

    Model() {
        for (int reel = 0; reel < 10; reel++) {
            set("reel place", reel, VAN);
            set("minutes", reel, 8 + reel);
        }
        for (int generator = 0; generator < 2; generator++) {
            set("generator place", generator, VAN);
            set("fuel", generator, 60);
        }
        set("price", 0, 4);
    }

    private int get(String name, int number) {
        return now.getOrDefault(name + number, 0);
    }

    private void set(String name, int number, int value) {
        now.put(name + number, value);
    }

    private void add(String name, int number, int more) {
        set(name, number, get(name, number) + more);
    }

    private Saved saved() {
        return new Saved(new TreeMap<>(now), new ArrayList<>(shows));
    }

    private void bring(Saved saved) {
        now = new TreeMap<>(saved.numbers());
        shows = new ArrayList<>(saved.shows());
    }

    /** Calls a method by its name, as a call on the program would. */
    int call(String name, int a, int b) {
        Saved was = saved();
        int answer = act(name, a, b);
        if (answer != Integer.MIN_VALUE) {
            if (answer >= 0) {
                history.addLast(was);
                if (history.size() > 4) {
                    history.removeFirst();
                }
            }
            return answer;
        }
        return other(name, a, b);
    }

    private int act(String name, int a, int b) {
        switch (name) {
            case "drive": return drive(a);
            case "moveReel": return a < 0 || a > 9 ? BarnPictures.UNKNOWN : move("reel place", a, b != 0);
            case "moveGenerator": return a < 0 || a > 1 ? BarnPictures.UNKNOWN : move("generator place", a, b != 0);
            case "fuel": return fuel(a, b);
            case "renew": return renew(a);
            case "setPrice": return setPrice(a);
            case "show": return show(a);
            case "nextDay": return nextDay();
            case "perform": return perform();
            case "restore":
                if (snapshot == null) {
                    return BarnPictures.NONE;
                }
                bring(snapshot);
                return get("day", 0);
            default: return Integer.MIN_VALUE;
        }
    }

    private int other(String name, int a, int b) {
        switch (name) {
            case "type":
                if (text.length() == 80) {
                    return BarnPictures.FULL;
                }
                text += (char) a;
                return text.length();
            case "clearText":
                int length = text.length();
                text = "";
                return length;
            case "stopped": return a < 0 || a > 1 ? BarnPictures.BAD_VALUE : stop == null ? BarnPictures.NONE : stop[a];
            case "undo":
                if (history.isEmpty()) {
                    return BarnPictures.NONE;
                }
                bring(history.removeLast());
                return history.size();
            case "keep":
                snapshot = saved();
                return get("day", 0);
            case "reel": return reel(a, b);
            case "generator": return generator(a, b);
            case "barn": return barn(a, b);
            case "bestBarn": return bestBarn();
            case "ifPrice": return a < 0 || a > 4 ? BarnPictures.UNKNOWN
                : b < 1 || b > 99 ? BarnPictures.BAD_VALUE : people(a) * b;
            case "showOf": return showOf(a, b);
            case "count": return count(a);
            default: throw new IllegalArgumentException(name);
        }
    }

    private int drive(int to) {
        if (to < 0 || to > 4) {
            return BarnPictures.UNKNOWN;
        }
        int way = MILES[to] - MILES[get("van", 0)];
        if (way == 0) {
            return BarnPictures.NONE;
        }
        set("van", 0, to);
        add("driving", 0, way < 0 ? -way : way);
        return way < 0 ? -way : way;
    }

    private int move(String kind, int thing, boolean in) {
        if (gone(kind, thing)) {
            return BarnPictures.UNKNOWN;
        }
        int place = get(kind, thing);
        int van = get("van", 0);
        if (place != VAN && place != van) {
            return BarnPictures.NOT_POSSIBLE;
        }
        if (place == (in ? VAN : van)) {
            return BarnPictures.NONE;
        }
        if (in && inVan() > 7) {
            return BarnPictures.FULL;
        }
        set(kind, thing, in ? VAN : van);
        return inVan();
    }

    private boolean gone(String kind, int thing) {
        return kind.equals("reel place") && get("minutes", thing) < 3;
    }

    private int inVan() {
        int things = 0;
        for (Map.Entry<String, Integer> entry : now.entrySet()) {
            if (entry.getKey().contains("place") && entry.getValue() == VAN) {
                things++;
            }
        }
        return things;
    }

    private int fuel(int generator, int minutes) {
        if (generator != 0 && generator != 1) {
            return BarnPictures.UNKNOWN;
        }
        if (minutes < 5 || minutes > 500 || minutes / 5 * 5 != minutes) {
            return BarnPictures.BAD_VALUE;
        }
        if (get("generator place", generator) != VAN) {
            return BarnPictures.NOT_POSSIBLE;
        }
        if (get("fuel", generator) > 500 - minutes) {
            return BarnPictures.FULL;
        }
        add("fuel", generator, minutes);
        add("fuel cost", 0, minutes / 5);
        return get("fuel", generator);
    }

    private int renew(int reel) {
        if (reel < 0 || reel > 9 || gone("reel place", reel)) {
            return BarnPictures.UNKNOWN;
        }
        if (get("reel place", reel) != VAN) {
            return BarnPictures.NOT_POSSIBLE;
        }
        add("renewing", 0, 30);
        set("minutes", reel, reel + 8);
        for (String name : new String[] {"wear", "splices", "played"}) {
            set(name, reel, 0);
        }
        return reel + 8;
    }

    private int setPrice(int coins) {
        int price = get("price", 0);
        if (coins < 1 || coins > 99) {
            return BarnPictures.BAD_VALUE;
        }
        set("price", 0, coins);
        return coins == price ? BarnPictures.NONE : price;
    }

    private int nextDay() {
        if (get("day", 0) == 9999) {
            return BarnPictures.FULL;
        }
        add("day", 0, 1);
        return get("day", 0);
    }

    private List<Integer> reelsIn(int barn) {
        List<Integer> reels = new ArrayList<>();
        for (int reel = 0; reel < 10; reel++) {
            if (!gone("reel place", reel) && get("reel place", reel) == barn) {
                reels.add(reel);
            }
        }
        return reels;
    }

    private int minutesIn(int barn) {
        return reelsIn(barn).stream().mapToInt(reel -> get("minutes", reel)).sum();
    }

    /** The minutes of fuel of the generators that are in a barn, by their numbers. */
    private Map<Integer, Integer> fuelIn(int barn) {
        Map<Integer, Integer> fuel = new LinkedHashMap<>();
        for (int generator = 0; generator < 2; generator++) {
            if (get("generator place", generator) == barn) {
                fuel.put(generator, get("fuel", generator));
            }
        }
        return fuel;
    }

    private int reason(int barn) {
        for (int[] show : shows) {
            if (show[0] == get("day", 0) && show[1] == barn) {
                return 1;
            }
        }
        if (reelsIn(barn).isEmpty()) {
            return 2;
        }
        if (fuelIn(barn).isEmpty()) {
            return 3;
        }
        int needed = minutesIn(barn);
        return fuelIn(barn).values().stream().anyMatch(fuel -> fuel >= needed) ? 0 : 4;
    }

    private int people(int barn) {
        List<Integer> reels = reelsIn(barn);
        if (reels.isEmpty()) {
            return 0;
        }
        long fresh = reels.stream().filter(reel -> (get("played", reel) >> barn) % 2 == 0).count();
        int wear = reels.stream().mapToInt(reel -> get("wear", reel)).max().orElse(0);
        int people = (int) (SEATS[barn] * fresh / reels.size()) - wear / 10;
        return people < 0 ? 0 : people;
    }

    private int show(int barn) {
        if (barn < 0 || barn > 4) {
            return BarnPictures.UNKNOWN;
        }
        int reason = reason(barn);
        if (reason > 0) {
            return -10000010 - reason;
        }
        int minutes = minutesIn(barn);
        int people = people(barn);
        int takings = people * get("price", 0);
        for (Map.Entry<Integer, Integer> fuel : fuelIn(barn).entrySet()) {
            if (fuel.getValue() >= minutes) {
                set("fuel", fuel.getKey(), fuel.getValue() - minutes);
                break;
            }
        }
        for (int reel : reelsIn(barn)) {
            set("played", reel, get("played", reel) | 1 << barn);
            add("wear", reel, 5 + barn % 3);
            if (get("wear", reel) >= 40) {
                add("wear", reel, -20);
                add("minutes", reel, -1);
                add("splices", reel, 1);
                add("all splices", 0, 1);
            }
            if (gone("reel place", reel)) {
                set("reel place", reel, -1);
            }
        }
        shows.add(new int[] {get("day", 0), barn, people, takings, minutes});
        return takings;
    }

    private int reel(int reel, int what) {
        if (reel < 0 || reel > 9 || gone("reel place", reel)) {
            return BarnPictures.UNKNOWN;
        }
        switch (what) {
            case 0: return get("reel place", reel) == VAN ? BarnPictures.NONE : get("reel place", reel);
            case 1: return get("minutes", reel);
            case 2: return get("wear", reel);
            case 3: return get("splices", reel);
            case 4: return get("played", reel);
            // The first splice is at a wear of 40; it leaves 20 and some, so the next are 4 shows apart.
            case 5: return (44 - get("wear", reel)) / 5 + 4 * (get("minutes", reel) - 3);
            default: return BarnPictures.BAD_VALUE;
        }
    }

    private int generator(int generator, int what) {
        if (generator != 0 && generator != 1) {
            return BarnPictures.UNKNOWN;
        }
        int place = get("generator place", generator);
        return what == 0 ? (place == VAN ? BarnPictures.NONE : place)
            : what == 1 ? get("fuel", generator) : BarnPictures.BAD_VALUE;
    }

    private int barn(int barn, int what) {
        if (barn < 0 || barn > 4) {
            return BarnPictures.UNKNOWN;
        }
        switch (what) {
            case 0: return MILES[barn];
            case 1: return SEATS[barn];
            case 2: return barn > 2 ? barn - 3 : barn;
            case 3: return reelsIn(barn).size();
            case 4: return minutesIn(barn);
            case 5: return people(barn);
            case 6: return reason(barn);
            case 7: return (int) shows.stream().filter(show -> show[1] == barn).count();
            case 8: return shows.stream().filter(show -> show[1] == barn).mapToInt(show -> show[3]).sum();
            default: return BarnPictures.BAD_VALUE;
        }
    }

    private int bestBarn() {
        int best = BarnPictures.NONE;
        for (int barn = 4; barn >= 0; barn--) {
            if (reason(barn) == 0 && (best < 0 || people(barn) >= people(best))) {
                best = barn;
            }
        }
        return best;
    }

    private int showOf(int back, int what) {
        if (back < 0 || what < 0 || what > 4) {
            return BarnPictures.BAD_VALUE;
        }
        return back > 5 || back >= shows.size() ? BarnPictures.NONE : shows.get(shows.size() - 1 - back)[what];
    }

    private int count(int what) {
        int takings = shows.stream().mapToInt(show -> show[3]).sum();
        switch (what) {
            case 0: return get("day", 0);
            case 1: return get("van", 0);
            case 2: return inVan();
            case 3: return goneReels();
            case 4: return takings;
            case 5: return get("driving", 0);
            case 6: return get("fuel cost", 0);
            case 7: return get("renewing", 0);
            case 8: return takings - get("driving", 0) - get("fuel cost", 0) - get("renewing", 0);
            case 9: return shows.size();
            case 10: return shows.stream().mapToInt(show -> show[2]).sum();
            case 11: return get("price", 0);
            case 12: return get("all splices", 0);
            case 13: return history.size();
            case 14: return text.length();
            default: return BarnPictures.BAD_VALUE;
        }
    }

    private int goneReels() {
        int reels = 0;
        for (int reel = 0; reel < 10; reel++) {
            reels += gone("reel place", reel) ? 1 : 0;
        }
        return reels;
    }

    private int perform() {
        int fault = fault();
        if (fault >= 0) {
            return -10000200 - fault;
        }
        Saved was = saved();
        String[] commands = text.split(",");
        for (int command = 0; command < commands.length; command++) {
            int answer = command(commands[command]);
            if (answer < 0 && answer != BarnPictures.NONE) {
                bring(was);
                stop = new int[] {command, answer};
                return BarnPictures.NOT_POSSIBLE;
            }
        }
        return commands.length;
    }

    private int command(String command) {
        int thing = command.length() > 1 ? command.charAt(1) - '0' : 0;
        switch (command.charAt(0)) {
            case 'v': return drive(thing);
            case '+': return move("reel place", thing, true);
            case '-': return move("reel place", thing, false);
            case 'g': return move("generator place", thing, get("generator place", thing) != VAN);
            case 'f': return fuel(thing, Integer.parseInt(command.substring(3)));
            case 's': return show(get("van", 0));
            default: return nextDay();
        }
    }

    /** The fault of the text, or -1: at each place it is looked up what is allowed there. */
    private int fault() {
        String mode = "command";
        int minutes = 0;
        for (int i = 0; i < text.length(); i++) {
            char sign = text.charAt(i);
            if (allowed(mode, minutes).indexOf(sign) < 0) {
                return i;
            }
            if (mode.equals("minutes") && sign != ',') {
                minutes = minutes * 10 + sign - '0';
            } else {
                mode = following(mode, sign);
                minutes = 0;
            }
        }
        return allowed(mode, minutes).indexOf(',') >= 0 ? -1 : text.length();
    }

    private static String allowed(String mode, int minutes) {
        switch (mode) {
            case "command": return "v+-gfsd";
            case "v": return "01234";
            case "+":
            case "-": return "0123456789";
            case "g":
            case "f": return "01";
            case "colon": return ":";
            case "comma": return ",";
            default: break;
        }
        String allowed = minutes > 0 && minutes % 5 == 0 ? "," : "";
        for (int digit = minutes == 0 ? 1 : 0; digit < 10; digit++) {
            allowed += minutes * 10 + digit <= 500 ? "" + digit : "";
        }
        return allowed;
    }

    private static String following(String mode, char sign) {
        switch (mode) {
            case "command": return sign == 's' || sign == 'd' ? "comma" : "" + sign;
            case "f": return "colon";
            case "colon": return "minutes";
            case "comma":
            case "minutes": return "command";
            default: return "comma";
        }
    }
}
