import java.util.Arrays;

/** A circuit of cinemas that share the reels of their films; ../shared/DOC.md says what each call does. */
public final class CircuitReels {
    public static final int NO_SUCH = -1, BAD_VALUE = -2, BAD_TEXT = -3, TOO_MANY = -4, NOT_POSSIBLE = -5, NONE = -6;
    public static final int LAST = 0, WAIT = 1, MEND = 2, ADVERTS = 3, PRICE = 4;

    private static final int SETTINGS = 5, FILMS = 5, REELS = 6, HOUSES = 4, SHOWS = 20, ADVERT_KINDS = 7;
    private static final int LAST_MINUTE = 1439, MOST_SEATS = 999, MOST_RENTAL = 100, MOST_WAY = 99, FIRST_WAY = 10;
    private static final int LAST_MINUTE_ASKED = 9999, MOST_SLOWER = 99, NO_MORE_MISSED = 1000;
    private static final int CHARACTERS = 80, CHARACTERS_AT_ONCE = 8, STATES = 6, SLOTS = 2;
    private static final int[] LEAST_VALUE = {1, 0, 0, 0, 0};
    private static final int[] MOST_VALUE = {60, 60, 60, 9, 99};
    private static final int[] FIRST_VALUE = {15, 5, 10, 3, 5};

    private final Circuit circuit = new Circuit();
    private final Programme programme = new Programme();
    private final History history = new History();
    private final Pad pad = new Pad();
    private final Circuit[] slots = new Circuit[SLOTS];
    private final boolean[] saved = new boolean[SLOTS];
    // These are for questions of the kind "what if", so that the circuit itself stays as it is.
    private final Circuit slowCircuit = new Circuit();
    private final Reels reelsAhead = new Reels();
    private final Reels reelsTried = new Reels();

    public CircuitReels() {
        for (int slot = 0; slot < SLOTS; slot++) {
            slots[slot] = new Circuit();
        }
    }

    // ---- changes

    public int set(int setting, int value) {
        history.prepare(circuit);
        return recorded(circuit.changeSetting(setting, value));
    }

    public int film(int reels, int home, int rental) {
        history.prepare(circuit);
        return recorded(circuit.addFilm(reels, home, rental));
    }

    public int way(int one, int other, int minutes) {
        history.prepare(circuit);
        return recorded(circuit.changeWay(one, other, minutes));
    }

    public int show(int film, int house, int minute, int seats) {
        history.prepare(circuit);
        return recorded(circuit.addShow(film, house, minute, seats));
    }

    public int drop(int show) {
        history.prepare(circuit);
        return recorded(circuit.removeShow(show));
    }

    public int tear(int film, int reel, int minute) {
        history.prepare(circuit);
        return recorded(circuit.tearReel(film, reel, minute));
    }

    public int glue(int film, int reel) {
        history.prepare(circuit);
        return recorded(circuit.glueReel(film, reel));
    }

    private int recorded(int answer) {
        if (!isError(answer)) {
            history.keepPrepared();
        }
        return answer;
    }

    // ---- what there is

    public int ofFilm(int film, int what) {
        if (!circuit.hasFilm(film)) {
            return NO_SUCH;
        }
        programme.goThrough(circuit);
        switch (what) {
            case 0: return circuit.reelsOf[film];
            case 1: return circuit.homeOf[film];
            case 2: return circuit.rentalOf[film];
            case 3: return showsWith(circuit.showFilm, film);
            case 4: return programme.carried[film];
            case 5: return sumWith(programme.rental, circuit.showFilm, film);
            default: return BAD_VALUE;
        }
    }

    public int ofShow(int show, int what) {
        if (!circuit.hasShow(show)) {
            return NO_SUCH;
        }
        programme.goThrough(circuit);
        switch (what) {
            case 0: return circuit.showFilm[show];
            case 1: return circuit.showHouse[show];
            case 2: return circuit.showMinute[show];
            case 3: return circuit.showSeats[show];
            case 4: return programme.place[show];
            case 5: return programme.end[show];
            case 6: return programme.waited[show];
            case 7: return programme.missed[show];
            case 8: return programme.takings[show];
            case 9: return programme.takings[show] - programme.left[show];
            case 10: return programme.rental[show];
            case 11: return firstAdvert(programme.place[show]);
            default: return BAD_VALUE;
        }
    }

    public int shown(int show, int reel) {
        if (!circuit.hasShow(show) || !circuit.hasReel(circuit.showFilm[show], reel)) {
            return NO_SUCH;
        }
        programme.goThrough(circuit);
        return programme.shownAt[show * REELS + reel];
    }

    public int where(int film, int reel, int minute) {
        if (!circuit.hasReel(film, reel)) {
            return NO_SUCH;
        }
        if (!isWithin(minute, 0, LAST_MINUTE_ASKED)) {
            return BAD_VALUE;
        }
        programme.goThrough(circuit);
        return placeOfReel(film, reel, minute);
    }

    public int count(int what) {
        programme.goThrough(circuit);
        switch (what) {
            case 0: return circuit.films;
            case 1: return circuit.shows;
            case 2: return sum(programme.waited, circuit.shows);
            case 3: return programme.allMissed(circuit);
            case 4: return sum(programme.carried, circuit.films);
            case 5: return sum(programme.left, circuit.shows);
            case 6: return sum(programme.rental, circuit.shows);
            case 7: return programme.lastEnd(circuit);
            case 8: return circuit.settings[LAST];
            case 9: return circuit.settings[WAIT];
            case 10: return circuit.settings[MEND];
            case 11: return circuit.settings[ADVERTS];
            case 12: return circuit.settings[PRICE];
            case 13: return pad.length;
            case 14: return history.states;
            default: return BAD_VALUE;
        }
    }

    public int ofHouse(int house, int what) {
        if (!isHouse(house)) {
            return NO_SUCH;
        }
        programme.goThrough(circuit);
        switch (what) {
            case 0: return showsWith(circuit.showHouse, house);
            case 1: return sumWith(programme.left, circuit.showHouse, house);
            case 2: return sumWith(programme.rental, circuit.showHouse, house);
            case 3: return sumWith(programme.waited, circuit.showHouse, house);
            default: return BAD_VALUE;
        }
    }

    public int advert(int advert) {
        if (!isWithin(advert, 0, ADVERT_KINDS - 1)) {
            return NO_SUCH;
        }
        int all = circuit.shows * circuit.settings[ADVERTS];
        return (all + ADVERT_KINDS - 1 - advert) / ADVERT_KINDS;
    }

    private int firstAdvert(int place) {
        int adverts = circuit.settings[ADVERTS];
        return adverts == 0 ? NONE : place * adverts % ADVERT_KINDS;
    }

    /** Follows one reel through the shows; the programme has to be gone through. */
    private int placeOfReel(int film, int reel, int minute) {
        Reels reels = reelsAhead;
        reels.begin(circuit, film);
        for (int place = 0; place < circuit.shows; place++) {
            int show = programme.order[place];
            if (circuit.showFilm[show] != film) {
                continue;
            }
            int house = reels.house[reel];
            int free = reels.free[reel];
            if (minute < free) {
                return house;
            }
            reels.play(circuit, circuit.showHouse[show], circuit.showMinute[show]);
            if (reels.house[reel] != house && minute < free + circuit.minutesBetween(house, reels.house[reel])) {
                return NONE;
            }
        }
        return reels.house[reel];
    }

    private int showsWith(int[] key, int wanted) {
        int shows = 0;
        for (int show = 0; show < circuit.shows; show++) {
            if (key[show] == wanted) {
                shows++;
            }
        }
        return shows;
    }

    private int sumWith(int[] values, int[] key, int wanted) {
        int sum = 0;
        for (int show = 0; show < circuit.shows; show++) {
            if (key[show] == wanted) {
                sum += values[show];
            }
        }
        return sum;
    }

    private static int sum(int[] values, int many) {
        int sum = 0;
        for (int index = 0; index < many; index++) {
            sum += values[index];
        }
        return sum;
    }

    // ---- what if; nothing changes

    public int firstFree(int film, int house, int from) {
        if (!circuit.hasFilm(film) || !isHouse(house)) {
            return NO_SUCH;
        }
        if (!isWithin(from, 0, LAST_MINUTE)) {
            return BAD_VALUE;
        }
        if (circuit.shows >= SHOWS) {
            return TOO_MANY;
        }
        programme.goThrough(circuit);
        reelsAhead.begin(circuit, film);
        int place = 0;
        for (int minute = from; minute <= LAST_MINUTE; minute++) {
            place = playShowsUntil(minute, film, place);
            reelsTried.takeOver(reelsAhead);
            reelsTried.play(circuit, house, minute);
            if (reelsTried.waited == 0 && reelsTried.missed == 0 && noneIsWorse(film, place)) {
                return minute;
            }
        }
        return NONE;
    }

    public int slower(int minutes) {
        if (!isWithin(minutes, 0, MOST_SLOWER)) {
            return BAD_VALUE;
        }
        programme.goThrough(circuit);
        int missed = programme.allMissed(circuit);
        slowCircuit.takeOver(circuit);
        slowCircuit.lengthenWays(minutes);
        programme.goThrough(slowCircuit);
        return NO_MORE_MISSED + programme.allMissed(slowCircuit) - missed;
    }

    /** A new show has the highest number, so shows of the same minute are ahead of it. */
    private int playShowsUntil(int minute, int film, int firstPlace) {
        for (int place = firstPlace; place < circuit.shows; place++) {
            int show = programme.order[place];
            if (circuit.showMinute[show] > minute) {
                return place;
            }
            if (circuit.showFilm[show] == film) {
                reelsAhead.play(circuit, circuit.showHouse[show], circuit.showMinute[show]);
            }
        }
        return circuit.shows;
    }

    /** Only shows of the same film share reels with the one that is tried. */
    private boolean noneIsWorse(int film, int firstPlace) {
        for (int place = firstPlace; place < circuit.shows; place++) {
            int show = programme.order[place];
            if (circuit.showFilm[show] != film) {
                continue;
            }
            reelsTried.play(circuit, circuit.showHouse[show], circuit.showMinute[show]);
            if (reelsTried.waited > programme.waited[show]
                    || Integer.bitCount(reelsTried.missed) > Integer.bitCount(programme.missed[show])) {
                return false;
            }
        }
        return true;
    }

    // ---- texts

    public int put(long characters) {
        return pad.append(characters);
    }

    public int wipe() {
        int length = pad.length;
        pad.length = 0;
        return length;
    }

    public int fault() {
        return pad.findFault();
    }

    public int carryOut() {
        if (pad.findFault() != NONE) {
            return BAD_TEXT;
        }
        history.prepare(circuit);
        int carriedOut = carryOutOrders();
        history.keepPrepared();
        pad.length = 0;
        return carriedOut;
    }

    private int carryOutOrders() {
        int carriedOut = 0;
        pad.at = 0;
        for (int character = 0; character < CHARACTERS && pad.readOrder(); character++) {
            if (isError(carryOutOrder())) {
                return carriedOut;
            }
            carriedOut++;
            pad.readSign(';');
        }
        return carriedOut;
    }

    private int carryOutOrder() {
        int[] values = pad.values;
        switch (pad.kind) {
            case 'f': return circuit.addFilm(values[0], values[1], values[2]);
            case 's': return circuit.addShow(values[0], values[1], values[2], values[3]);
            case 'w': return circuit.changeWay(values[0], values[1], values[2]);
            case 't': return circuit.tearReel(values[0], values[1], values[2]);
            default: return circuit.removeShow(values[0]);
        }
    }

    // ---- undo, saving

    public int undo() {
        return history.goBack(circuit);
    }

    public int save(int slot) {
        if (!isWithin(slot, 0, SLOTS - 1)) {
            return BAD_VALUE;
        }
        slots[slot].takeOver(circuit);
        saved[slot] = true;
        return circuit.shows;
    }

    public int restore(int slot) {
        if (!isWithin(slot, 0, SLOTS - 1)) {
            return BAD_VALUE;
        }
        if (!saved[slot]) {
            return NOT_POSSIBLE;
        }
        history.prepare(circuit);
        circuit.takeOver(slots[slot]);
        history.keepPrepared();
        return circuit.shows;
    }

    private static boolean isError(int answer) {
        return answer < 0 && answer != NONE;
    }

    private static boolean isWithin(int value, int least, int most) {
        return value >= least && value <= most;
    }

    private static boolean isHouse(int house) {
        return isWithin(house, 0, HOUSES - 1);
    }

    /** All that an undo takes back and a slot keeps. */
    private static final class Circuit {
        final int[] settings = new int[SETTINGS];
        final int[] ways = new int[HOUSES * HOUSES];
        int films = 0;
        final int[] reelsOf = new int[FILMS];
        final int[] homeOf = new int[FILMS];
        final int[] rentalOf = new int[FILMS];
        final int[] tornFrom = new int[FILMS * REELS];
        int shows = 0;
        final int[] showFilm = new int[SHOWS];
        final int[] showHouse = new int[SHOWS];
        final int[] showMinute = new int[SHOWS];
        final int[] showSeats = new int[SHOWS];

        Circuit() {
            System.arraycopy(FIRST_VALUE, 0, settings, 0, SETTINGS);
            Arrays.fill(tornFrom, NONE);
            for (int way = 0; way < HOUSES * HOUSES; way++) {
                // A house is no way off itself, so that a reel that stays is there when it is free.
                ways[way] = way / HOUSES == way % HOUSES ? 0 : FIRST_WAY;
            }
        }

        void takeOver(Circuit other) {
            System.arraycopy(other.settings, 0, settings, 0, SETTINGS);
            System.arraycopy(other.ways, 0, ways, 0, HOUSES * HOUSES);
            films = other.films;
            System.arraycopy(other.reelsOf, 0, reelsOf, 0, FILMS);
            System.arraycopy(other.homeOf, 0, homeOf, 0, FILMS);
            System.arraycopy(other.rentalOf, 0, rentalOf, 0, FILMS);
            System.arraycopy(other.tornFrom, 0, tornFrom, 0, FILMS * REELS);
            shows = other.shows;
            System.arraycopy(other.showFilm, 0, showFilm, 0, SHOWS);
            System.arraycopy(other.showHouse, 0, showHouse, 0, SHOWS);
            System.arraycopy(other.showMinute, 0, showMinute, 0, SHOWS);
            System.arraycopy(other.showSeats, 0, showSeats, 0, SHOWS);
        }

        boolean hasFilm(int film) {
            return isWithin(film, 0, films - 1);
        }

        boolean hasReel(int film, int reel) {
            return hasFilm(film) && isWithin(reel, 0, reelsOf[film] - 1);
        }

        boolean hasShow(int show) {
            return isWithin(show, 0, shows - 1);
        }

        int minutesBetween(int one, int other) {
            return ways[one * HOUSES + other];
        }

        int changeSetting(int setting, int value) {
            if (!isWithin(setting, 0, SETTINGS - 1)
                    || !isWithin(value, LEAST_VALUE[setting], MOST_VALUE[setting])) {
                return BAD_VALUE;
            }
            int previous = settings[setting];
            settings[setting] = value;
            return previous;
        }

        int addFilm(int reels, int home, int rental) {
            if (!isWithin(reels, 1, REELS) || !isWithin(rental, 0, MOST_RENTAL)) {
                return BAD_VALUE;
            }
            if (!isHouse(home)) {
                return NO_SUCH;
            }
            if (films >= FILMS) {
                return TOO_MANY;
            }
            reelsOf[films] = reels;
            homeOf[films] = home;
            rentalOf[films] = rental;
            films++;
            return films - 1;
        }

        int changeWay(int one, int other, int minutes) {
            if (!isHouse(one) || !isHouse(other)) {
                return NO_SUCH;
            }
            if (one == other || !isWithin(minutes, 1, MOST_WAY)) {
                return BAD_VALUE;
            }
            int previous = minutesBetween(one, other);
            ways[one * HOUSES + other] = minutes;
            ways[other * HOUSES + one] = minutes;
            return previous;
        }

        void lengthenWays(int minutes) {
            for (int way = 0; way < HOUSES * HOUSES; way++) {
                if (way / HOUSES != way % HOUSES) {
                    ways[way] += minutes;
                }
            }
        }

        int addShow(int film, int house, int minute, int seats) {
            if (!hasFilm(film) || !isHouse(house)) {
                return NO_SUCH;
            }
            if (!isWithin(minute, 0, LAST_MINUTE) || !isWithin(seats, 0, MOST_SEATS)) {
                return BAD_VALUE;
            }
            if (shows >= SHOWS) {
                return TOO_MANY;
            }
            showFilm[shows] = film;
            showHouse[shows] = house;
            showMinute[shows] = minute;
            showSeats[shows] = seats;
            shows++;
            return shows - 1;
        }

        int removeShow(int show) {
            if (!hasShow(show)) {
                return NO_SUCH;
            }
            shows--;
            for (int index = show; index < shows; index++) {
                showFilm[index] = showFilm[index + 1];
                showHouse[index] = showHouse[index + 1];
                showMinute[index] = showMinute[index + 1];
                showSeats[index] = showSeats[index + 1];
            }
            return shows;
        }

        int tearReel(int film, int reel, int minute) {
            if (!hasReel(film, reel)) {
                return NO_SUCH;
            }
            if (!isWithin(minute, 0, LAST_MINUTE)) {
                return BAD_VALUE;
            }
            int previous = tornFrom[film * REELS + reel];
            tornFrom[film * REELS + reel] = minute;
            return previous;
        }

        int glueReel(int film, int reel) {
            if (!hasReel(film, reel)) {
                return NO_SUCH;
            }
            int previous = tornFrom[film * REELS + reel];
            if (previous == NONE) {
                return NOT_POSSIBLE;
            }
            tornFrom[film * REELS + reel] = NONE;
            return previous;
        }
    }

    /** The reels of one film while its shows are gone through, and what became of the latest of them. */
    private static final class Reels {
        final int[] house = new int[REELS];
        final int[] free = new int[REELS];
        final int[] tornFrom = new int[REELS];
        final int[] shownAt = new int[REELS];
        int reels = 0;
        int end = 0;
        int waited = 0;
        int missed = 0;
        int carried = 0;

        void begin(Circuit circuit, int film) {
            reels = circuit.reelsOf[film];
            Arrays.fill(house, circuit.homeOf[film]);
            Arrays.fill(free, 0);
            System.arraycopy(circuit.tornFrom, film * REELS, tornFrom, 0, REELS);
        }

        /** What became of the latest show is not taken over: the next one writes it anew. */
        void takeOver(Reels other) {
            reels = other.reels;
            System.arraycopy(other.house, 0, house, 0, REELS);
            System.arraycopy(other.free, 0, free, 0, REELS);
            System.arraycopy(other.tornFrom, 0, tornFrom, 0, REELS);
        }

        void play(Circuit circuit, int inHouse, int minute) {
            end = minute;
            waited = 0;
            missed = 0;
            carried = 0;
            for (int reel = 0; reel < reels; reel++) {
                int due = end;
                int there = free[reel] + circuit.minutesBetween(house[reel], inHouse);
                if (there > due + circuit.settings[WAIT]) {
                    missed |= 1 << reel;
                    shownAt[reel] = NONE;
                    continue;
                }
                if (house[reel] != inHouse) {
                    carried++;
                }
                house[reel] = inHouse;
                shownAt[reel] = Math.max(due, there);
                waited += shownAt[reel] - due;
                end = shownAt[reel] + circuit.settings[LAST];
                free[reel] = end + mend(circuit, reel, minute);
            }
        }

        private int mend(Circuit circuit, int reel, int minute) {
            if (tornFrom[reel] == NONE || tornFrom[reel] > minute) {
                return 0;
            }
            tornFrom[reel] = NONE;
            return circuit.settings[MEND];
        }
    }

    /** What becomes of all shows. */
    private static final class Programme {
        final int[] order = new int[SHOWS];
        final int[] place = new int[SHOWS];
        final int[] end = new int[SHOWS];
        final int[] waited = new int[SHOWS];
        final int[] missed = new int[SHOWS];
        final int[] shownAt = new int[SHOWS * REELS];
        final int[] takings = new int[SHOWS];
        final int[] left = new int[SHOWS];
        final int[] rental = new int[SHOWS];
        final int[] carried = new int[FILMS];
        final Reels[] reels = new Reels[FILMS];

        Programme() {
            for (int film = 0; film < FILMS; film++) {
                reels[film] = new Reels();
            }
        }

        void goThrough(Circuit circuit) {
            for (int film = 0; film < circuit.films; film++) {
                reels[film].begin(circuit, film);
                carried[film] = 0;
            }
            putInOrder(circuit);
            for (int next = 0; next < circuit.shows; next++) {
                place[order[next]] = next;
                playShow(circuit, order[next]);
                reckon(circuit, order[next]);
            }
        }

        private void putInOrder(Circuit circuit) {
            for (int show = 0; show < circuit.shows; show++) {
                int behind = show;
                while (behind > 0 && circuit.showMinute[order[behind - 1]] > circuit.showMinute[show]) {
                    order[behind] = order[behind - 1];
                    behind--;
                }
                order[behind] = show;
            }
        }

        private void playShow(Circuit circuit, int show) {
            int film = circuit.showFilm[show];
            Reels played = reels[film];
            played.play(circuit, circuit.showHouse[show], circuit.showMinute[show]);
            end[show] = played.end;
            waited[show] = played.waited;
            missed[show] = played.missed;
            carried[film] += played.carried;
            System.arraycopy(played.shownAt, 0, shownAt, show * REELS, REELS);
        }

        private void reckon(Circuit circuit, int show) {
            int film = circuit.showFilm[show];
            int reelsOfFilm = Math.max(1, circuit.reelsOf[film]);
            takings[show] = circuit.showSeats[show] * circuit.settings[PRICE];
            left[show] = takings[show] - takings[show] * Integer.bitCount(missed[show]) / reelsOfFilm;
            rental[show] = left[show] * circuit.rentalOf[film] / 100;
        }

        int allMissed(Circuit circuit) {
            int all = 0;
            for (int show = 0; show < circuit.shows; show++) {
                all += Integer.bitCount(missed[show]);
            }
            return all;
        }

        int lastEnd(Circuit circuit) {
            int last = 0;
            for (int show = 0; show < circuit.shows; show++) {
                last = Math.max(last, end[show]);
            }
            return last;
        }
    }

    /** The states before the latest changes, the oldest first, in a ring with one place for a state that may be kept. */
    private static final class History {
        private static final int RING = STATES + 1;

        final Circuit[] ring = new Circuit[RING];
        int oldest = 0;
        int states = 0;

        History() {
            for (int index = 0; index < RING; index++) {
                ring[index] = new Circuit();
            }
        }

        /** Only the call's answer tells whether it was a change, so its state is taken ahead of it. */
        void prepare(Circuit circuit) {
            ring[(oldest + states) % RING].takeOver(circuit);
        }

        void keepPrepared() {
            if (states < STATES) {
                states++;
            } else {
                oldest = (oldest + 1) % RING;
            }
        }

        int goBack(Circuit circuit) {
            if (states == 0) {
                return NOT_POSSIBLE;
            }
            states--;
            circuit.takeOver(ring[(oldest + states) % RING]);
            return states;
        }
    }

    /** The text of orders, read from left to right; where reading stops, `at` is the fault. */
    private static final class Pad {
        private static final int MOST_VALUES = 4, DIGITS = 4;

        final char[] text = new char[CHARACTERS];
        final int[] values = new int[MOST_VALUES];
        int length = 0;
        int at = 0;
        char kind = 0;
        private int filled = 0;

        int append(long characters) {
            int many = 0;
            long rest = characters;
            while (many < CHARACTERS_AT_ONCE && (rest & 255) != 0) {
                if ((rest & 255) < 33 || (rest & 255) > 126) {
                    return BAD_VALUE;
                }
                rest >>>= 8;
                many++;
            }
            if (many == 0 || rest != 0) {
                return BAD_VALUE;
            }
            if (length + many > CHARACTERS) {
                return TOO_MANY;
            }
            for (int index = 0; index < many; index++) {
                text[length + many - 1 - index] = (char) (characters >>> 8 * index & 255);
            }
            length += many;
            return length;
        }

        int findFault() {
            at = 0;
            for (int character = 0; character < CHARACTERS && readOrder(); character++) {
                if (at == length) {
                    return NONE;
                }
                if (!readSign(';')) {
                    return at;
                }
            }
            return at;
        }

        boolean readOrder() {
            if (at >= length) {
                return false;
            }
            kind = text[at];
            String shape = shapeOf(kind);
            if (shape.isEmpty()) {
                return false;
            }
            at++;
            filled = 0;
            for (int part = 0; part < shape.length(); part++) {
                if (!readPart(shape.charAt(part))) {
                    return false;
                }
            }
            return true;
        }

        /** In a shape, a d stands for a digit and an n for a number. */
        private static String shapeOf(char kind) {
            switch (kind) {
                case 'f': return "d@d%n";
                case 's': return "d@d:n*n";
                case 'w': return "dd=n";
                case 't': return "d/d:n";
                case '-': return "n";
                default: return "";
            }
        }

        private boolean readPart(char part) {
            switch (part) {
                case 'd': return readNumber(1);
                case 'n': return readNumber(DIGITS);
                default: return readSign(part);
            }
        }

        /** A digit too many is left: none of the signs that can follow a number is a digit. */
        private boolean readNumber(int mostDigits) {
            if (!isDigitNext() || filled >= MOST_VALUES) {
                return false;
            }
            int number = text[at] - '0';
            at++;
            for (int digits = 1; digits < mostDigits && number != 0 && isDigitNext(); digits++) {
                number = number * 10 + text[at] - '0';
                at++;
            }
            values[filled] = number;
            filled++;
            return true;
        }

        boolean readSign(char sign) {
            if (at >= length || text[at] != sign) {
                return false;
            }
            at++;
            return true;
        }

        private boolean isDigitNext() {
            return at < length && text[at] >= '0' && text[at] <= '9';
        }
    }
}
