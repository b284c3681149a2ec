/**
 * A travelling picture show: a van drives between barns, reels wear by being shown,
 * generators burn fuel, and a route can be typed and performed as one act.
 *
 * <p>An act works on the state in place. What was before it is copied first, into rows that are
 * made once: a refused route goes back to the copy, an act that succeeds puts it into the history.
 */
public final class BarnPictures {
    /** There is no such barn, reel or generator (any more). */
    public static final int UNKNOWN = -10000001;
    /** Another argument is out of range. */
    public static final int BAD_VALUE = -10000002;
    /** There is no more room. */
    public static final int FULL = -10000003;
    /** This is not possible. */
    public static final int NOT_POSSIBLE = -10000004;
    /** There is no such thing; not an error. */
    public static final int NONE = -10000005;
    /** There is no show: this minus the reason is returned. */
    public static final int NO_SHOW = -10000010;

    private static final int TEXT_FAULT = -10000200;

    private static final int BARNS = 5;
    private static final int REELS = 10;
    private static final int GENERATORS = 2;
    private static final int[] MILES = {0, 8, 20, 26, 45};
    private static final int[] SEATS = {40, 60, 80, 50, 30};
    private static final int ROUGHNESSES = 3;

    // A place is the number of a barn, or one of these two.
    private static final int IN_VAN = -1;
    private static final int GONE = -2;
    private static final int VAN_ROOM = 8;

    private static final int SHORTEST_NEW_REEL = 8;
    private static final int SHORTEST_REEL = 3;
    private static final int WEAR_OF_A_SHOW = 5;
    private static final int BREAKING_WEAR = 40;
    private static final int WEAR_OFF_BY_SPLICE = 20;
    private static final int WEAR_THAT_COSTS_A_VISITOR = 10;
    private static final int RENEWAL_COINS = 30;

    private static final int FUEL_AT_FIRST = 60;
    private static final int MOST_FUEL = 500;
    private static final int FUEL_STEP = 5;

    private static final int PRICE_AT_FIRST = 4;
    private static final int HIGHEST_PRICE = 99;
    private static final int LAST_DAY = 9999;

    private static final int CAN_SHOW = 0;
    private static final int SHOWN_TODAY = 1;
    private static final int NO_REEL = 2;
    private static final int NO_GENERATOR = 3;
    private static final int NO_FUEL = 4;

    private static final int ALLOWED = 0;
    private static final int NOBODY = -1;
    private static final int NO_FAULT = -1;
    private static final int END = -1;
    private static final int NO_DIGIT = -1;
    private static final int NO_MINUTES = -1;

    private static final int TEXT_ROOM = 80;
    private static final int MOST_COMMANDS = 40;
    private static final int HISTORY_ROOM = 4;
    private static final int LOG_ROOM = 6;
    private static final int LOG_WIDTH = 5;

    private final State state = new State();
    private final State before = new State();
    private final State snapshot = new State();
    private final History history = new History();
    private final Text text = new Text();
    private final Route route = new Route();
    private boolean kept = false;
    private boolean wasStopped = false;
    private int stoppedCommand = 0;
    private int stoppedBy = 0;

    /** Creates a show on the day 0, with all things in the van. */
    public BarnPictures() {
    }

    // ---- van, things

    /** Drives the van; answers the miles, UNKNOWN, or NONE if it is there already. */
    public int drive(int barn) {
        before.copyFrom(state);
        return recorded(state.driveTo(barn));
    }

    /** Moves a reel; answers the things in the van, UNKNOWN, NOT_POSSIBLE, NONE or FULL. */
    public int moveReel(int reel, boolean in) {
        before.copyFrom(state);
        return recorded(state.carryReel(reel, in));
    }

    /** Moves a generator; answers as moveReel() does. */
    public int moveGenerator(int generator, boolean in) {
        before.copyFrom(state);
        return recorded(state.carryGenerator(generator, in));
    }

    /** Buys fuel; answers the generator's minutes, UNKNOWN, BAD_VALUE, NOT_POSSIBLE or FULL. */
    public int fuel(int generator, int minutes) {
        before.copyFrom(state);
        return recorded(state.buyFuel(generator, minutes));
    }

    /** Renews a reel in the van; answers its minutes, UNKNOWN or NOT_POSSIBLE. */
    public int renew(int reel) {
        before.copyFrom(state);
        return recorded(state.renewReel(reel));
    }

    // ---- shows, days

    /** Sets the price; answers the previous one, BAD_VALUE, or NONE if it is so already. */
    public int setPrice(int coins) {
        before.copyFrom(state);
        return recorded(state.changePrice(coins));
    }

    /** Makes a show; answers the takings, UNKNOWN, or NO_SHOW minus the reason. */
    public int show(int barn) {
        before.copyFrom(state);
        return recorded(state.showIn(barn));
    }

    /** Begins the next day; answers it, or FULL. */
    public int nextDay() {
        before.copyFrom(state);
        return recorded(state.beginNextDay());
    }

    // ---- texts

    /** Types a character behind the text; answers the text's length, or FULL. */
    public int type(char character) {
        return text.append(character);
    }

    /** Empties the text; answers the length that it had. */
    public int clearText() {
        return text.empty();
    }

    /**
     * Does all commands of the text, or none; answers how many there are, -10000200 minus the
     * fault of the text, or NOT_POSSIBLE.
     */
    public int perform() {
        int fault = route.faultOf(text);
        if (fault != NO_FAULT) {
            return TEXT_FAULT - fault;
        }
        before.copyFrom(state);
        for (int command = 0; command < route.size(); command++) {
            int answer = route.obeyedBy(state, command);
            if (answer < 0 && answer != NONE) {
                state.copyFrom(before);
                rememberStop(command, answer);
                return NOT_POSSIBLE;
            }
        }
        return recorded(route.size());
    }

    /** Tells of the latest stop of perform(), or answers BAD_VALUE or NONE. */
    public int stopped(int what) {
        if (what < 0 || what > 1) {
            return BAD_VALUE;
        }
        if (!wasStopped) {
            return NONE;
        }
        return what == 0 ? stoppedCommand : stoppedBy;
    }

    // ---- history

    /** Restores the latest state of the history; answers how many are left, or NONE. */
    public int undo() {
        return history.takeLatestInto(state) ? history.size() : NONE;
    }

    /** Takes a snapshot of the state; answers the day. */
    public int keep() {
        snapshot.copyFrom(state);
        kept = true;
        return state.today();
    }

    /** Restores the snapshot, which stays; answers the day then, or NONE. */
    public int restore() {
        if (!kept) {
            return NONE;
        }
        before.copyFrom(state);
        state.copyFrom(snapshot);
        return recorded(state.today());
    }

    // ---- what is told

    /** Tells of a reel, or answers UNKNOWN or BAD_VALUE. */
    public int reel(int reel, int what) {
        return state.toldOfReel(reel, what);
    }

    /** Tells of a generator, or answers UNKNOWN or BAD_VALUE. */
    public int generator(int generator, int what) {
        return state.toldOfGenerator(generator, what);
    }

    /** Tells of a barn, or answers UNKNOWN or BAD_VALUE. */
    public int barn(int barn, int what) {
        return state.toldOfBarn(barn, what);
    }

    /** Tells the barn whose show would bring the most now, or answers NONE. */
    public int bestBarn() {
        return state.barnThatBringsMost();
    }

    /** Tells what a show would bring at another price, or answers UNKNOWN or BAD_VALUE. */
    public int ifPrice(int barn, int price) {
        if (!isBarn(barn)) {
            return UNKNOWN;
        }
        return isPrice(price) ? state.peopleIn(barn) * price : BAD_VALUE;
    }

    /** Looks back at the latest 6 shows, or answers BAD_VALUE or NONE. */
    public int showOf(int back, int what) {
        return state.toldOfPastShow(back, what);
    }

    /** Tells one of the numbers of the whole show, or answers BAD_VALUE. */
    public int count(int what) {
        switch (what) {
            case 13: return history.size();
            case 14: return text.length();
            default: return state.toldOfAll(what);
        }
    }

    /** Puts what was before the act into the history, unless the act was refused. */
    private int recorded(int answer) {
        // Whatever an act tells is 0 or more; only errors and NONE are below.
        if (answer >= 0) {
            history.add(before);
        }
        return answer;
    }

    private void rememberStop(int command, int error) {
        wasStopped = true;
        stoppedCommand = command;
        stoppedBy = error;
    }

    private static boolean isBarn(int barn) {
        return barn >= 0 && barn < BARNS;
    }

    private static boolean isGenerator(int generator) {
        return generator >= 0 && generator < GENERATORS;
    }

    private static boolean isPrice(int coins) {
        return coins >= 1 && coins <= HIGHEST_PRICE;
    }

    private static boolean isFuelOnSale(int minutes) {
        return minutes >= FUEL_STEP && minutes <= MOST_FUEL && minutes % FUEL_STEP == 0;
    }

    /** All that undo() and restore() bring back. */
    private static final class State {
        private final Reels reels = new Reels();
        private final Generators generators = new Generators();
        private final Barns barns = new Barns();
        private final ShowLog log = new ShowLog();
        private final Accounts accounts = new Accounts();
        private int van = 0;
        private int day = 0;
        private int price = PRICE_AT_FIRST;

        void copyFrom(State other) {
            reels.copyFrom(other.reels);
            generators.copyFrom(other.generators);
            barns.copyFrom(other.barns);
            log.copyFrom(other.log);
            accounts.copyFrom(other.accounts);
            van = other.van;
            day = other.day;
            price = other.price;
        }

        int whereVanIs() {
            return van;
        }

        int today() {
            return day;
        }

        int driveTo(int barn) {
            if (!isBarn(barn)) {
                return UNKNOWN;
            }
            if (barn == van) {
                return NONE;
            }
            int miles = Math.abs(MILES[barn] - MILES[van]);
            van = barn;
            accounts.payDriving(miles);
            return miles;
        }

        int carryReel(int reel, boolean in) {
            if (!reels.isThere(reel)) {
                return UNKNOWN;
            }
            int refusal = refusalToCarry(reels.placeOf(reel), in);
            if (refusal != ALLOWED) {
                return refusal;
            }
            reels.put(reel, in ? IN_VAN : van);
            return thingsInVan();
        }

        int carryGenerator(int generator, boolean in) {
            if (!isGenerator(generator)) {
                return UNKNOWN;
            }
            int refusal = refusalToCarry(generators.placeOf(generator), in);
            if (refusal != ALLOWED) {
                return refusal;
            }
            generators.put(generator, in ? IN_VAN : van);
            return thingsInVan();
        }

        /** A route's command does not say which way: out of the van if it is there, else in. */
        int carryGeneratorOver(int generator) {
            if (!isGenerator(generator)) {
                return UNKNOWN;
            }
            return carryGenerator(generator, generators.placeOf(generator) != IN_VAN);
        }

        private int refusalToCarry(int place, boolean in) {
            if (place != IN_VAN && place != van) {
                return NOT_POSSIBLE;
            }
            if (in == (place == IN_VAN)) {
                return NONE;
            }
            return in && thingsInVan() >= VAN_ROOM ? FULL : ALLOWED;
        }

        private int thingsInVan() {
            return reels.numberAt(IN_VAN) + generators.numberAt(IN_VAN);
        }

        int buyFuel(int generator, int minutes) {
            if (!isGenerator(generator)) {
                return UNKNOWN;
            }
            if (!isFuelOnSale(minutes)) {
                return BAD_VALUE;
            }
            if (generators.placeOf(generator) != IN_VAN) {
                return NOT_POSSIBLE;
            }
            if (generators.minutesOf(generator) + minutes > MOST_FUEL) {
                return FULL;
            }
            generators.addMinutes(generator, minutes);
            accounts.payFuel(minutes / FUEL_STEP);
            return generators.minutesOf(generator);
        }

        int renewReel(int reel) {
            if (!reels.isThere(reel)) {
                return UNKNOWN;
            }
            if (reels.placeOf(reel) != IN_VAN) {
                return NOT_POSSIBLE;
            }
            reels.makeNew(reel);
            accounts.payRenewal();
            return reels.minutesOf(reel);
        }

        int changePrice(int coins) {
            if (!isPrice(coins)) {
                return BAD_VALUE;
            }
            if (coins == price) {
                return NONE;
            }
            int previous = price;
            price = coins;
            return previous;
        }

        int showIn(int barn) {
            if (!isBarn(barn)) {
                return UNKNOWN;
            }
            int reason = reasonAgainst(barn);
            if (reason != CAN_SHOW) {
                return NO_SHOW - reason;
            }
            // All of these hold ahead of the show, which wears and breaks the reels.
            int people = peopleIn(barn);
            int takings = people * price;
            int minutes = reels.minutesIn(barn);
            generators.burn(generators.lowestWith(barn, minutes), minutes);
            int splices = reels.playAllIn(barn);
            barns.addShow(barn, day, takings);
            log.add(day, barn, people, takings, minutes);
            accounts.addShow(people, takings, splices);
            return takings;
        }

        private int reasonAgainst(int barn) {
            if (barns.hadShowOn(barn, day)) {
                return SHOWN_TODAY;
            }
            if (reels.numberAt(barn) == 0) {
                return NO_REEL;
            }
            if (generators.numberAt(barn) == 0) {
                return NO_GENERATOR;
            }
            if (generators.lowestWith(barn, reels.minutesIn(barn)) == NOBODY) {
                return NO_FUEL;
            }
            return CAN_SHOW;
        }

        int peopleIn(int barn) {
            int played = reels.numberAt(barn);
            if (played == 0) {
                return 0;
            }
            int come = SEATS[barn] * reels.freshIn(barn) / played;
            int stayAway = reels.mostWearIn(barn) / WEAR_THAT_COSTS_A_VISITOR;
            return Math.max(come - stayAway, 0);
        }

        int barnThatBringsMost() {
            // One price holds in every barn: the most people bring the most.
            int best = NONE;
            int most = -1;
            for (int barn = 0; barn < BARNS; barn++) {
                if (reasonAgainst(barn) == CAN_SHOW && peopleIn(barn) > most) {
                    best = barn;
                    most = peopleIn(barn);
                }
            }
            return best;
        }

        int beginNextDay() {
            if (day >= LAST_DAY) {
                return FULL;
            }
            day++;
            return day;
        }

        int toldOfReel(int reel, int what) {
            if (!reels.isThere(reel)) {
                return UNKNOWN;
            }
            switch (what) {
                case 0: return barnOrNone(reels.placeOf(reel));
                case 1: return reels.minutesOf(reel);
                case 2: return reels.wearOf(reel);
                case 3: return reels.splicesOf(reel);
                case 4: return reels.barnsOf(reel);
                case 5: return reels.showsLeft(reel);
                default: return BAD_VALUE;
            }
        }

        int toldOfGenerator(int generator, int what) {
            if (!isGenerator(generator)) {
                return UNKNOWN;
            }
            switch (what) {
                case 0: return barnOrNone(generators.placeOf(generator));
                case 1: return generators.minutesOf(generator);
                default: return BAD_VALUE;
            }
        }

        private static int barnOrNone(int place) {
            return place == IN_VAN ? NONE : place;
        }

        int toldOfBarn(int barn, int what) {
            if (!isBarn(barn)) {
                return UNKNOWN;
            }
            switch (what) {
                case 0: return MILES[barn];
                case 1: return SEATS[barn];
                case 2: return barn % ROUGHNESSES;
                case 3: return reels.numberAt(barn);
                case 4: return reels.minutesIn(barn);
                case 5: return peopleIn(barn);
                case 6: return reasonAgainst(barn);
                case 7: return barns.showsOf(barn);
                case 8: return barns.takingsOf(barn);
                default: return BAD_VALUE;
            }
        }

        int toldOfPastShow(int back, int what) {
            if (back < 0 || what < 0 || what >= LOG_WIDTH) {
                return BAD_VALUE;
            }
            return back < log.size() ? log.told(back, what) : NONE;
        }

        int toldOfAll(int what) {
            switch (what) {
                case 0: return day;
                case 1: return van;
                case 2: return thingsInVan();
                case 3: return reels.numberAt(GONE);
                case 11: return price;
                default: return accounts.told(what);
            }
        }
    }

    /** Where the reels are, how they are, and in which barns they were played. */
    private static final class Reels {
        private final int[] place = new int[REELS];
        private final int[] minutes = new int[REELS];
        private final int[] wear = new int[REELS];
        private final int[] splices = new int[REELS];
        private final int[] playedIn = new int[REELS];

        Reels() {
            for (int reel = 0; reel < REELS; reel++) {
                place[reel] = IN_VAN;
                minutes[reel] = SHORTEST_NEW_REEL + reel;
            }
        }

        void copyFrom(Reels other) {
            System.arraycopy(other.place, 0, place, 0, REELS);
            System.arraycopy(other.minutes, 0, minutes, 0, REELS);
            System.arraycopy(other.wear, 0, wear, 0, REELS);
            System.arraycopy(other.splices, 0, splices, 0, REELS);
            System.arraycopy(other.playedIn, 0, playedIn, 0, REELS);
        }

        boolean isThere(int reel) {
            return reel >= 0 && reel < REELS && place[reel] != GONE;
        }

        int placeOf(int reel) {
            return place[reel];
        }

        int minutesOf(int reel) {
            return minutes[reel];
        }

        int wearOf(int reel) {
            return wear[reel];
        }

        int splicesOf(int reel) {
            return splices[reel];
        }

        int barnsOf(int reel) {
            return playedIn[reel];
        }

        void put(int reel, int newPlace) {
            place[reel] = newPlace;
        }

        void makeNew(int reel) {
            minutes[reel] = SHORTEST_NEW_REEL + reel;
            wear[reel] = 0;
            splices[reel] = 0;
            playedIn[reel] = 0;
        }

        int numberAt(int somewhere) {
            int number = 0;
            for (int reel = 0; reel < REELS; reel++) {
                if (place[reel] == somewhere) {
                    number++;
                }
            }
            return number;
        }

        int minutesIn(int barn) {
            int sum = 0;
            for (int reel = 0; reel < REELS; reel++) {
                if (place[reel] == barn) {
                    sum += minutes[reel];
                }
            }
            return sum;
        }

        int freshIn(int barn) {
            int fresh = 0;
            for (int reel = 0; reel < REELS; reel++) {
                if (place[reel] == barn && (playedIn[reel] & (1 << barn)) == 0) {
                    fresh++;
                }
            }
            return fresh;
        }

        int mostWearIn(int barn) {
            int most = 0;
            for (int reel = 0; reel < REELS; reel++) {
                if (place[reel] == barn) {
                    most = Math.max(most, wear[reel]);
                }
            }
            return most;
        }

        /** Plays the reels of a barn; answers how many splices that made. */
        int playAllIn(int barn) {
            int made = 0;
            for (int reel = 0; reel < REELS; reel++) {
                if (place[reel] == barn) {
                    made += playOne(reel, barn);
                }
            }
            return made;
        }

        private int playOne(int reel, int barn) {
            playedIn[reel] |= 1 << barn;
            wear[reel] += WEAR_OF_A_SHOW + barn % ROUGHNESSES;
            int made = 0;
            while (wear[reel] >= BREAKING_WEAR) {
                wear[reel] -= WEAR_OFF_BY_SPLICE;
                made++;
            }
            splices[reel] += made;
            minutes[reel] -= made;
            if (minutes[reel] < SHORTEST_REEL) {
                place[reel] = GONE;
            }
            return made;
        }

        /** How many shows without roughness a reel bears, with the one that makes it gone. */
        int showsLeft(int reel) {
            int shows = 0;
            int worn = wear[reel];
            for (int left = minutes[reel]; left >= SHORTEST_REEL; left--) {
                while (worn < BREAKING_WEAR) {
                    worn += WEAR_OF_A_SHOW;
                    shows++;
                }
                worn -= WEAR_OFF_BY_SPLICE;
            }
            return shows;
        }
    }

    /** Where the generators are, and their fuel. */
    private static final class Generators {
        private final int[] place = new int[GENERATORS];
        private final int[] minutes = new int[GENERATORS];

        Generators() {
            for (int generator = 0; generator < GENERATORS; generator++) {
                place[generator] = IN_VAN;
                minutes[generator] = FUEL_AT_FIRST;
            }
        }

        void copyFrom(Generators other) {
            System.arraycopy(other.place, 0, place, 0, GENERATORS);
            System.arraycopy(other.minutes, 0, minutes, 0, GENERATORS);
        }

        int placeOf(int generator) {
            return place[generator];
        }

        int minutesOf(int generator) {
            return minutes[generator];
        }

        void put(int generator, int newPlace) {
            place[generator] = newPlace;
        }

        void addMinutes(int generator, int more) {
            minutes[generator] += more;
        }

        void burn(int generator, int burnt) {
            if (isGenerator(generator)) {
                minutes[generator] -= burnt;
            }
        }

        int numberAt(int somewhere) {
            int number = 0;
            for (int generator = 0; generator < GENERATORS; generator++) {
                if (place[generator] == somewhere) {
                    number++;
                }
            }
            return number;
        }

        /** The lowest generator in a barn that has fuel for so many minutes, or NOBODY. */
        int lowestWith(int barn, int needed) {
            for (int generator = 0; generator < GENERATORS; generator++) {
                if (place[generator] == barn && minutes[generator] >= needed) {
                    return generator;
                }
            }
            return NOBODY;
        }
    }

    /** The shows that each barn had. */
    private static final class Barns {
        private final int[] latestDay = new int[BARNS];
        private final int[] shows = new int[BARNS];
        private final int[] takings = new int[BARNS];

        void copyFrom(Barns other) {
            System.arraycopy(other.latestDay, 0, latestDay, 0, BARNS);
            System.arraycopy(other.shows, 0, shows, 0, BARNS);
            System.arraycopy(other.takings, 0, takings, 0, BARNS);
        }

        boolean hadShowOn(int barn, int day) {
            return shows[barn] > 0 && latestDay[barn] == day;
        }

        void addShow(int barn, int day, int taken) {
            latestDay[barn] = day;
            shows[barn]++;
            takings[barn] += taken;
        }

        int showsOf(int barn) {
            return shows[barn];
        }

        int takingsOf(int barn) {
            return takings[barn];
        }
    }

    /** The latest shows, the latest one first. */
    private static final class ShowLog {
        private final int[] numbers = new int[LOG_ROOM * LOG_WIDTH];
        private int size = 0;

        void copyFrom(ShowLog other) {
            System.arraycopy(other.numbers, 0, numbers, 0, LOG_ROOM * LOG_WIDTH);
            size = other.size;
        }

        int size() {
            return size;
        }

        void add(int day, int barn, int people, int takings, int minutes) {
            for (int i = LOG_ROOM * LOG_WIDTH - 1; i >= LOG_WIDTH; i--) {
                numbers[i] = numbers[i - LOG_WIDTH];
            }
            numbers[0] = day;
            numbers[1] = barn;
            numbers[2] = people;
            numbers[3] = takings;
            numbers[4] = minutes;
            size = Math.min(size + 1, LOG_ROOM);
        }

        int told(int back, int what) {
            return numbers[back * LOG_WIDTH + what];
        }
    }

    /** What was taken and paid so far, and how much was shown. */
    private static final class Accounts {
        private int takings = 0;
        private int driving = 0;
        private int fuelling = 0;
        private int renewing = 0;
        private int shows = 0;
        private int people = 0;
        private int splices = 0;

        void copyFrom(Accounts other) {
            takings = other.takings;
            driving = other.driving;
            fuelling = other.fuelling;
            renewing = other.renewing;
            shows = other.shows;
            people = other.people;
            splices = other.splices;
        }

        void payDriving(int coins) {
            driving += coins;
        }

        void payFuel(int coins) {
            fuelling += coins;
        }

        void payRenewal() {
            renewing += RENEWAL_COINS;
        }

        void addShow(int came, int taken, int spliced) {
            shows++;
            people += came;
            takings += taken;
            splices += spliced;
        }

        /** One of these numbers, by the number that count() has for it. */
        int told(int what) {
            switch (what) {
                case 4: return takings;
                case 5: return driving;
                case 6: return fuelling;
                case 7: return renewing;
                case 8: return takings - driving - fuelling - renewing;
                case 9: return shows;
                case 10: return people;
                case 12: return splices;
                default: return BAD_VALUE;
            }
        }
    }

    /** The latest states, in rows that are used again in turn. */
    private static final class History {
        private final State[] states = new State[HISTORY_ROOM];
        private int next = 0;
        private int size = 0;

        History() {
            for (int row = 0; row < HISTORY_ROOM; row++) {
                states[row] = new State();
            }
        }

        int size() {
            return size;
        }

        void add(State state) {
            states[next].copyFrom(state);
            next = (next + 1) % HISTORY_ROOM;
            size = Math.min(size + 1, HISTORY_ROOM);
        }

        boolean takeLatestInto(State state) {
            if (size == 0) {
                return false;
            }
            next = (next + HISTORY_ROOM - 1) % HISTORY_ROOM;
            size--;
            state.copyFrom(states[next]);
            return true;
        }
    }

    /** The text that is typed. */
    private static final class Text {
        private final char[] signs = new char[TEXT_ROOM];
        private int length = 0;

        int length() {
            return length;
        }

        int append(char sign) {
            if (length >= TEXT_ROOM) {
                return FULL;
            }
            signs[length] = sign;
            length++;
            return length;
        }

        int empty() {
            int had = length;
            length = 0;
            return had;
        }

        int signAt(int index) {
            return index >= 0 && index < length ? signs[index] : END;
        }
    }

    /** The commands of a text: the sign of each, and the one or two numbers behind it. */
    private static final class Route {
        private final int[] signs = new int[MOST_COMMANDS];
        private final int[] things = new int[MOST_COMMANDS];
        private final int[] amounts = new int[MOST_COMMANDS];
        private int size = 0;
        private int at = 0;

        int size() {
            return size;
        }

        /** Reads the commands of a text; answers its fault, or NO_FAULT. */
        int faultOf(Text text) {
            size = 0;
            at = 0;
            for (int command = 0; command < MOST_COMMANDS; command++) {
                if (!readsCommand(text)) {
                    return at;
                }
                if (at == text.length()) {
                    return NO_FAULT;
                }
                if (!readsSign(text, ',')) {
                    return at;
                }
            }
            // So many commands, each with its ",", fill the text: it ends too early.
            return at;
        }

        // Each of these stops at the character that is not allowed, and answers false then.

        private boolean readsCommand(Text text) {
            int sign = text.signAt(at);
            switch (sign) {
                case 'v': return readsWithThing(text, sign, BARNS);
                case '+':
                case '-': return readsWithThing(text, sign, REELS);
                case 'g': return readsWithThing(text, sign, GENERATORS);
                case 'f': return readsFuel(text);
                case 's':
                case 'd':
                    at++;
                    return adds(sign, 0, 0);
                default: return false;
            }
        }

        private boolean readsWithThing(Text text, int sign, int things) {
            at++;
            int thing = digitAt(text);
            if (thing == NO_DIGIT || thing >= things) {
                return false;
            }
            at++;
            return adds(sign, thing, 0);
        }

        private boolean readsFuel(Text text) {
            at++;
            int generator = digitAt(text);
            if (!isGenerator(generator)) {
                return false;
            }
            at++;
            if (!readsSign(text, ':')) {
                return false;
            }
            int minutes = readMinutes(text);
            return minutes != NO_MINUTES && adds('f', generator, minutes);
        }

        private boolean readsSign(Text text, char sign) {
            if (text.signAt(at) != sign) {
                return false;
            }
            at++;
            return true;
        }

        private int readMinutes(Text text) {
            int minutes = 0;
            for (int digits = 0; digits < TEXT_ROOM; digits++) {
                int digit = digitAt(text);
                int grown = minutes * 10 + digit;
                // Only a 0 in front leaves the minutes at 0.
                if (digit == NO_DIGIT || grown == 0 || grown > MOST_FUEL) {
                    break;
                }
                minutes = grown;
                at++;
            }
            return isFuelOnSale(minutes) ? minutes : NO_MINUTES;
        }

        private int digitAt(Text text) {
            int sign = text.signAt(at);
            return sign >= '0' && sign <= '9' ? sign - '0' : NO_DIGIT;
        }

        private boolean adds(int sign, int thing, int amount) {
            if (size >= MOST_COMMANDS) {
                return false;
            }
            signs[size] = sign;
            things[size] = thing;
            amounts[size] = amount;
            size++;
            return true;
        }

        /** Does one of the commands; answers what its method would return. */
        int obeyedBy(State state, int command) {
            int thing = things[command];
            switch (signs[command]) {
                case 'v': return state.driveTo(thing);
                case '+': return state.carryReel(thing, true);
                case '-': return state.carryReel(thing, false);
                case 'g': return state.carryGeneratorOver(thing);
                case 'f': return state.buyFuel(thing, amounts[command]);
                case 's': return state.showIn(state.whereVanIs());
                default: return state.beginNextDay();
            }
        }
    }
}
