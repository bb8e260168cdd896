import java.util.ArrayDeque;
import java.util.ArrayList;
import java.util.Comparator;
import java.util.Deque;
import java.util.HashMap;
import java.util.List;
import java.util.Map;
import java.util.TreeMap;
import java.util.regex.Matcher;
import java.util.regex.Pattern;

/** The document once more, written with the library and without thrift, to compare with. */
final class PlainCircuit {
    private static final int NO_SUCH = -1, BAD_VALUE = -2, BAD_TEXT = -3, TOO_MANY = -4, NOT_POSSIBLE = -5, NONE = -6;
    private static final String NUMBER = "(?:0|[1-9][0-9]{0,3})";
    private static final String ORDER = "(?:f[0-9]@[0-9]%N|s[0-9]@[0-9]:N\\*N|w[0-9][0-9]=N|t[0-9]/[0-9]:N|-N)".replace("N", NUMBER);
    private static final Pattern TEXT = Pattern.compile(ORDER + "(?:;" + ORDER + ")*");
    private static final Pattern VALUE = Pattern.compile("[0-9]+");

    record Film(int reels, int home, int rental) { }

    record Show(int film, int house, int minute, int seats) { }

    /** A reel stands in a house from one minute on, up to ahead of another. */
    record Stay(int house, int from, int until) { }

    static final class State {
        int[] settings = {15, 5, 10, 3, 5};
        List<Film> films = new ArrayList<>();
        List<Show> shows = new ArrayList<>();
        Map<List<Integer>, Integer> torn = new HashMap<>();
        Map<List<Integer>, Integer> ways = new HashMap<>();

        State copy() {
            State copy = new State();
            copy.settings = settings.clone();
            copy.films.addAll(films);
            copy.shows.addAll(shows);
            copy.torn.putAll(torn);
            copy.ways.putAll(ways);
            return copy;
        }

        int wayBetween(int one, int other) {
            return ways.getOrDefault(pair(one, other), 10);
        }
    }

    static final class Fate {
        int place;
        int end;
        int waits;
        int firstAdvert = NONE;
        Map<Integer, Integer> shownAt = new TreeMap<>();
        int missed;
        int missedSet;
    }

    static final class Outcome {
        List<Fate> fates = new ArrayList<>();
        Map<List<Integer>, List<Stay>> stays = new HashMap<>();
        int[] adverts = new int[7];
        int missed;
    }

    private State now = new State();
    private final Deque<State> past = new ArrayDeque<>();
    private final State[] slots = new State[2];
    private String pad = "";

    private static List<Integer> pair(int one, int other) {
        return List.of(Math.min(one, other), Math.max(one, other));
    }

    private static Outcome outcome(State state, int slower) {
        Outcome outcome = new Outcome();
        Map<List<Integer>, Integer> free = new HashMap<>();
        Map<List<Integer>, Integer> torn = new HashMap<>(state.torn);
        for (int film = 0; film < state.films.size(); film++) {
            for (int reel = 0; reel < state.films.get(film).reels; reel++) {
                List<Stay> stays = new ArrayList<>();
                stays.add(new Stay(state.films.get(film).home, 0, Integer.MAX_VALUE));
                outcome.stays.put(List.of(film, reel), stays);
                free.put(List.of(film, reel), 0);
            }
        }
        List<Integer> order = new ArrayList<>();
        for (int show = 0; show < state.shows.size(); show++) {
            order.add(show);
            outcome.fates.add(new Fate());
        }
        order.sort(Comparator.comparingInt(show -> state.shows.get(show).minute * 100 + show));
        int nextAdvert = 0;
        for (int place = 0; place < order.size(); place++) {
            Show show = state.shows.get(order.get(place));
            Fate fate = outcome.fates.get(order.get(place));
            fate.place = place;
            for (int advert = 0; advert < state.settings[3]; advert++) {
                if (advert == 0) {
                    fate.firstAdvert = nextAdvert;
                }
                outcome.adverts[nextAdvert]++;
                nextAdvert = nextAdvert == 6 ? 0 : nextAdvert + 1;
            }
            goOn(state, outcome, show, fate, free, torn, slower);
            outcome.missed += fate.missed;
        }
        return outcome;
    }

    private static void goOn(State state, Outcome outcome, Show show, Fate fate, Map<List<Integer>, Integer> free,
            Map<List<Integer>, Integer> torn, int slower) {
        int due = show.minute;
        for (int reel = 0; reel < state.films.get(show.film).reels; reel++) {
            List<Integer> key = List.of(show.film, reel);
            List<Stay> stays = outcome.stays.get(key);
            Stay last = stays.get(stays.size() - 1);
            boolean elsewhere = last.house != show.house;
            int there = free.get(key);
            if (elsewhere) {
                there += state.wayBetween(last.house, show.house) + slower;
            }
            int late = there - due;
            if (late > state.settings[1]) {
                fate.missed++;
                fate.missedSet += (int) Math.pow(2, reel);
                continue;
            }
            if (late > 0) {
                fate.waits += late;
                due = there;
            }
            fate.shownAt.put(reel, due);
            if (elsewhere) {
                stays.set(stays.size() - 1, new Stay(last.house, last.from, free.get(key)));
                stays.add(new Stay(show.house, there, Integer.MAX_VALUE));
            }
            due += state.settings[0];
            int from = torn.getOrDefault(key, 5000);
            free.put(key, from <= show.minute ? due + state.settings[2] : due);
            if (from <= show.minute) {
                torn.remove(key);
            }
        }
        fate.end = due;
    }

    private int changed(State before, int answer) {
        if (answer >= 0 || answer == NONE) {
            past.addLast(before);
            if (past.size() > 6) {
                past.removeFirst();
            }
        }
        return answer;
    }

    private static boolean out(int value, int least, int most) {
        return value < least || value > most;
    }

    private boolean noFilm(int film) {
        return out(film, 0, now.films.size() - 1);
    }

    private boolean noReel(int film, int reel) {
        return noFilm(film) || out(reel, 0, now.films.get(film).reels - 1);
    }

    int set(int setting, int value) {
        int[] least = {1, 0, 0, 0, 0};
        int[] most = {60, 60, 60, 9, 99};
        if (out(setting, 0, 4) || out(value, least[setting], most[setting])) {
            return BAD_VALUE;
        }
        State before = now.copy();
        int previous = now.settings[setting];
        now.settings[setting] = value;
        return changed(before, previous);
    }

    int film(int reels, int home, int rental) {
        return changed(now.copy(), addFilm(reels, home, rental));
    }

    private int addFilm(int reels, int home, int rental) {
        if (out(reels, 1, 6) || out(rental, 0, 100)) {
            return BAD_VALUE;
        }
        if (out(home, 0, 3)) {
            return NO_SUCH;
        }
        if (now.films.size() == 5) {
            return TOO_MANY;
        }
        now.films.add(new Film(reels, home, rental));
        return now.films.size() - 1;
    }

    int way(int one, int other, int minutes) {
        return changed(now.copy(), setWay(one, other, minutes));
    }

    private int setWay(int one, int other, int minutes) {
        if (out(one, 0, 3) || out(other, 0, 3)) {
            return NO_SUCH;
        }
        if (one == other || out(minutes, 1, 99)) {
            return BAD_VALUE;
        }
        int previous = now.wayBetween(one, other);
        now.ways.put(pair(one, other), minutes);
        return previous;
    }

    int show(int film, int house, int minute, int seats) {
        return changed(now.copy(), addShow(film, house, minute, seats));
    }

    private int addShow(int film, int house, int minute, int seats) {
        if (noFilm(film) || out(house, 0, 3)) {
            return NO_SUCH;
        }
        if (out(minute, 0, 1439) || out(seats, 0, 999)) {
            return BAD_VALUE;
        }
        if (now.shows.size() == 20) {
            return TOO_MANY;
        }
        now.shows.add(new Show(film, house, minute, seats));
        return now.shows.size() - 1;
    }

    int drop(int show) {
        return changed(now.copy(), removeShow(show));
    }

    private int removeShow(int show) {
        if (out(show, 0, now.shows.size() - 1)) {
            return NO_SUCH;
        }
        now.shows.remove(show);
        return now.shows.size();
    }

    int tear(int film, int reel, int minute) {
        return changed(now.copy(), tearReel(film, reel, minute));
    }

    private int tearReel(int film, int reel, int minute) {
        if (noReel(film, reel)) {
            return NO_SUCH;
        }
        if (out(minute, 0, 1439)) {
            return BAD_VALUE;
        }
        Integer previous = now.torn.put(List.of(film, reel), minute);
        return previous == null ? NONE : previous;
    }

    int glue(int film, int reel) {
        if (noReel(film, reel)) {
            return NO_SUCH;
        }
        State before = now.copy();
        Integer previous = now.torn.remove(List.of(film, reel));
        return previous == null ? NOT_POSSIBLE : changed(before, previous);
    }

    private int takings(int show) {
        return now.shows.get(show).seats * now.settings[4];
    }

    private int back(Outcome outcome, int show) {
        return takings(show) * outcome.fates.get(show).missed / now.films.get(now.shows.get(show).film).reels;
    }

    private int rental(Outcome outcome, int show) {
        return (takings(show) - back(outcome, show)) * now.films.get(now.shows.get(show).film).rental / 100;
    }

    private int carried(Outcome outcome, int film) {
        int carried = 0;
        for (int reel = 0; reel < now.films.get(film).reels; reel++) {
            carried += outcome.stays.get(List.of(film, reel)).size() - 1;
        }
        return carried;
    }

    int ofFilm(int film, int what) {
        if (noFilm(film)) {
            return NO_SUCH;
        }
        Film asked = now.films.get(film);
        Outcome outcome = outcome(now, 0);
        int shows = 0;
        int rentals = 0;
        for (int show = 0; show < now.shows.size(); show++) {
            if (now.shows.get(show).film == film) {
                shows++;
                rentals += rental(outcome, show);
            }
        }
        if (out(what, 0, 5)) {
            return BAD_VALUE;
        }
        return new int[] {asked.reels, asked.home, asked.rental, shows, carried(outcome, film), rentals}[what];
    }

    int ofShow(int show, int what) {
        if (out(show, 0, now.shows.size() - 1)) {
            return NO_SUCH;
        }
        if (out(what, 0, 11)) {
            return BAD_VALUE;
        }
        Outcome outcome = outcome(now, 0);
        Show asked = now.shows.get(show);
        Fate fate = outcome.fates.get(show);
        return new int[] {asked.film, asked.house, asked.minute, asked.seats, fate.place, fate.end, fate.waits, fate.missedSet,
            takings(show), back(outcome, show), rental(outcome, show), fate.firstAdvert}[what];
    }

    int shown(int show, int reel) {
        if (out(show, 0, now.shows.size() - 1) || noReel(now.shows.get(show).film, reel)) {
            return NO_SUCH;
        }
        return outcome(now, 0).fates.get(show).shownAt.getOrDefault(reel, NONE);
    }

    int where(int film, int reel, int minute) {
        if (noReel(film, reel)) {
            return NO_SUCH;
        }
        if (out(minute, 0, 9999)) {
            return BAD_VALUE;
        }
        for (Stay stay : outcome(now, 0).stays.get(List.of(film, reel))) {
            if (stay.from <= minute && minute < stay.until) {
                return stay.house;
            }
        }
        return NONE;
    }

    int count(int what) {
        if (out(what, 0, 14)) {
            return BAD_VALUE;
        }
        Outcome outcome = outcome(now, 0);
        int[] all = new int[15];
        all[0] = now.films.size();
        all[1] = now.shows.size();
        for (int show = 0; show < now.shows.size(); show++) {
            Fate fate = outcome.fates.get(show);
            all[2] += fate.waits;
            all[3] += fate.missed;
            all[5] += takings(show) - back(outcome, show);
            all[6] += rental(outcome, show);
            all[7] = Math.max(all[7], fate.end);
        }
        for (int film = 0; film < now.films.size(); film++) {
            all[4] += carried(outcome, film);
        }
        System.arraycopy(now.settings, 0, all, 8, 5);
        all[13] = pad.length();
        all[14] = past.size();
        return all[what];
    }

    int ofHouse(int house, int what) {
        if (out(house, 0, 3)) {
            return NO_SUCH;
        }
        if (out(what, 0, 3)) {
            return BAD_VALUE;
        }
        Outcome outcome = outcome(now, 0);
        int[] all = new int[4];
        for (int show = 0; show < now.shows.size(); show++) {
            if (now.shows.get(show).house == house) {
                all[0]++;
                all[1] += takings(show) - back(outcome, show);
                all[2] += rental(outcome, show);
                all[3] += outcome.fates.get(show).waits;
            }
        }
        return all[what];
    }

    int advert(int advert) {
        return out(advert, 0, 6) ? NO_SUCH : outcome(now, 0).adverts[advert];
    }

    int firstFree(int film, int house, int from) {
        if (noFilm(film) || out(house, 0, 3)) {
            return NO_SUCH;
        }
        if (out(from, 0, 1439)) {
            return BAD_VALUE;
        }
        if (now.shows.size() == 20) {
            return TOO_MANY;
        }
        Outcome without = outcome(now, 0);
        for (int minute = from; minute < 1440; minute++) {
            State with = now.copy();
            with.shows.add(new Show(film, house, minute, 0));
            if (isFree(without, outcome(with, 0))) {
                return minute;
            }
        }
        return NONE;
    }

    private static boolean isFree(Outcome without, Outcome with) {
        int added = without.fates.size();
        for (int show = 0; show < added; show++) {
            if (with.fates.get(show).waits > without.fates.get(show).waits
                    || with.fates.get(show).missed > without.fates.get(show).missed) {
                return false;
            }
        }
        return with.fates.get(added).waits == 0 && with.fates.get(added).missed == 0;
    }

    int slower(int minutes) {
        if (out(minutes, 0, 99)) {
            return BAD_VALUE;
        }
        return 1000 + outcome(now, minutes).missed - outcome(now, 0).missed;
    }

    int put(long characters) {
        String hex = String.format("%016x", characters);
        StringBuilder added = new StringBuilder();
        for (int index = 0; index < 16; index += 2) {
            int code = Integer.parseInt(hex.substring(index, index + 2), 16);
            if (code == 0 && added.length() == 0) {
                continue;
            }
            if (code < 33 || code > 126) {
                return BAD_VALUE;
            }
            added.append((char) code);
        }
        if (added.length() == 0) {
            return BAD_VALUE;
        }
        if (pad.length() + added.length() > 80) {
            return TOO_MANY;
        }
        pad += added;
        return pad.length();
    }

    int wipe() {
        int length = pad.length();
        pad = "";
        return length;
    }

    int fault() {
        if (TEXT.matcher(pad).matches()) {
            return NONE;
        }
        for (int length = 1; length <= pad.length(); length++) {
            Matcher start = TEXT.matcher(pad.substring(0, length));
            if (!start.matches() && !start.hitEnd()) {
                return length - 1;
            }
        }
        return pad.length();
    }

    int carryOut() {
        if (fault() != NONE) {
            return BAD_TEXT;
        }
        State before = now.copy();
        int carriedOut = 0;
        for (String order : pad.split(";")) {
            int answer = carryOut(order);
            if (answer < 0 && answer != NONE) {
                break;
            }
            carriedOut++;
        }
        pad = "";
        return changed(before, carriedOut);
    }

    private int carryOut(String order) {
        String apart = order.charAt(0) == 'w' ? order.charAt(1) + " " + order.substring(2) : order;
        List<Integer> values = new ArrayList<>();
        Matcher value = VALUE.matcher(apart);
        while (value.find()) {
            values.add(Integer.parseInt(value.group()));
        }
        switch (order.charAt(0)) {
            case 'f': return addFilm(values.get(0), values.get(1), values.get(2));
            case 's': return addShow(values.get(0), values.get(1), values.get(2), values.get(3));
            case 'w': return setWay(values.get(0), values.get(1), values.get(2));
            case 't': return tearReel(values.get(0), values.get(1), values.get(2));
            default: return removeShow(values.get(0));
        }
    }

    int undo() {
        if (past.isEmpty()) {
            return NOT_POSSIBLE;
        }
        now = past.removeLast();
        return past.size();
    }

    int save(int slot) {
        if (out(slot, 0, 1)) {
            return BAD_VALUE;
        }
        slots[slot] = now.copy();
        return now.shows.size();
    }

    int restore(int slot) {
        if (out(slot, 0, 1)) {
            return BAD_VALUE;
        }
        if (slots[slot] == null) {
            return NOT_POSSIBLE;
        }
        State before = now;
        now = slots[slot].copy();
        return changed(before, now.shows.size());
    }
}
