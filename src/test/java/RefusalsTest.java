import java.util.function.Supplier;
import java.util.function.ToIntFunction;

/**
 * Calls that are refused, each for a value too small, too large, missing or too many.
 * "It names its errors in the order in which they are checked, and the first one that applies is returned."
 * "A call that returns an error changes nothing": after each one, everything is as it was without it.
 */
public final class RefusalsTest {
    private static final int NO_SUCH = -1, BAD_VALUE = -2, BAD_TEXT = -3, TOO_MANY = -4, NOT_POSSIBLE = -5, NONE = -6;
    private static final int LOW = Integer.MIN_VALUE, HIGH = Integer.MAX_VALUE;
    private static final Checks checks = new Checks();

    private static final Scene fresh = new Scene("a new object", CircuitReels::new);
    private static final Scene busy = new Scene("a busy circuit", Circuits::busy);
    private static final Scene full = new Scene("a full circuit", Circuits::full);

    /** Circuits that are all alike, and what can be told of them when no call was refused. */
    private static final class Scene {
        final String name;
        final Supplier<CircuitReels> maker;
        final String everything;

        Scene(String name, Supplier<CircuitReels> maker) {
            this.name = name;
            this.maker = maker;
            everything = Circuits.everything(maker);
        }

        void refuses(int error, String call, ToIntFunction<CircuitReels> caller) {
            String told = call + " on " + name;
            checks.due(told, caller.applyAsInt(maker.get()), error);
            String behind = Circuits.everything(() -> {
                CircuitReels x = maker.get();
                caller.applyAsInt(x);
                return x;
            });
            checks.holds(told + " changes nothing", behind.equals(everything));
        }
    }

    public static void main(String[] args) {
        checkScenes();
        promise2Set();
        promise3Film();
        promise3FilmTooMany();
        promise4Way();
        promise5Show();
        promise5ShowTooMany();
        promise6Drop();
        promise7Tear();
        promise8Glue();
        promise9OfFilm();
        promise10OfShow();
        promise11Shown();
        promise12Where();
        promise13Count();
        promise14OfHouse();
        promise15Advert();
        promise16FirstFree();
        promise17Slower();
        promise18Put();
        promise18PutTooMany();
        promise21CarryOut();
        promise22Undo();
        promise23Save();
        promise24Restore();
        checks.end();
    }

    /** The scenes are worth the comparing: they hold what their names say. */
    private static void checkScenes() {
        CircuitReels x = Circuits.busy();
        checks.due("films of a busy circuit", x.count(0), 2);
        checks.due("shows of a busy circuit", x.count(1), 3);
        checks.due("its fault", x.fault(), NONE);
        checks.due("its waiting", x.count(2), 3);
        checks.due("its missed reels", x.count(3), 1);
        CircuitReels y = Circuits.full();
        int[] counts = {0, 1, 13, 14};
        int[] most = {5, 20, 80, 6};
        for (int index = 0; index < counts.length; index++) {
            checks.due("count(" + counts[index] + ") of a full circuit", y.count(counts[index]), most[index]);
        }
        checks.due("its fault", y.fault(), NONE);
        checks.due("all of its text can be carried out", y.carryOut(), 15);
        checks.holds("scenes differ", !busy.everything.equals(full.everything) && !busy.everything.equals(fresh.everything));
    }

    private static void promise2Set() {
        for (int setting : new int[] {-1, 5, LOW, HIGH}) {
            busy.refuses(BAD_VALUE, "set of no setting " + setting, x -> x.set(setting, 1));
        }
        int[] most = {60, 60, 60, 9, 99};
        for (int setting = 0; setting < 5; setting++) {
            int least = setting == 0 ? 1 : 0;
            for (int value : new int[] {least - 1, most[setting] + 1, LOW, HIGH}) {
                int which = setting;
                busy.refuses(BAD_VALUE, "set(" + setting + ", " + value + ")", x -> x.set(which, value));
                full.refuses(BAD_VALUE, "set(" + setting + ", " + value + ")", x -> x.set(which, value));
            }
        }
    }

    private static void promise3Film() {
        for (int reels : new int[] {0, 7, -1, LOW, HIGH}) {
            busy.refuses(BAD_VALUE, "film of reels " + reels, x -> x.film(reels, 0, 0));
        }
        for (int rental : new int[] {-1, 101, LOW, HIGH}) {
            busy.refuses(BAD_VALUE, "film of a rental " + rental, x -> x.film(1, 0, rental));
        }
        for (int home : new int[] {-1, 4, LOW, HIGH}) {
            busy.refuses(NO_SUCH, "film at home in " + home, x -> x.film(1, home, 0));
        }
        busy.refuses(BAD_VALUE, "film of bad reels at no house", x -> x.film(7, 4, 0));
        busy.refuses(BAD_VALUE, "film of a bad rental at no house", x -> x.film(1, 4, 101));
    }

    private static void promise3FilmTooMany() {
        full.refuses(TOO_MANY, "a sixth film", x -> x.film(1, 0, 0));
        full.refuses(TOO_MANY, "a sixth film, large", x -> x.film(6, 3, 100));
        full.refuses(NO_SUCH, "a sixth film at no house", x -> x.film(1, 4, 0));
        full.refuses(BAD_VALUE, "a sixth film without reels", x -> x.film(0, 0, 0));
        full.refuses(BAD_VALUE, "a sixth film of a bad rental at no house", x -> x.film(1, -1, 101));
    }

    private static void promise4Way() {
        for (int house : new int[] {-1, 4, LOW, HIGH}) {
            busy.refuses(NO_SUCH, "way from " + house, x -> x.way(house, 0, 1));
            busy.refuses(NO_SUCH, "way to " + house, x -> x.way(3, house, 1));
            busy.refuses(NO_SUCH, "way of bad minutes to " + house, x -> x.way(3, house, 0));
            busy.refuses(NO_SUCH, "way from no house to itself " + house, x -> x.way(house, house, 100));
        }
        for (int house = 0; house < 4; house++) {
            int which = house;
            busy.refuses(BAD_VALUE, "way to itself " + house, x -> x.way(which, which, 5));
        }
        for (int minutes : new int[] {0, 100, -1, LOW, HIGH}) {
            busy.refuses(BAD_VALUE, "way of minutes " + minutes, x -> x.way(1, 2, minutes));
            full.refuses(BAD_VALUE, "way of minutes " + minutes, x -> x.way(2, 1, minutes));
        }
    }

    private static void promise5Show() {
        fresh.refuses(NO_SUCH, "show without films", x -> x.show(0, 0, 0, 0));
        for (int film : new int[] {-1, 2, 5, LOW, HIGH}) {
            busy.refuses(NO_SUCH, "show of film " + film, x -> x.show(film, 0, 0, 0));
            busy.refuses(NO_SUCH, "show of film " + film + " at a bad minute", x -> x.show(film, 0, 1440, 0));
        }
        for (int house : new int[] {-1, 4, LOW, HIGH}) {
            busy.refuses(NO_SUCH, "show in house " + house, x -> x.show(1, house, 0, 0));
            busy.refuses(NO_SUCH, "show in house " + house + " with bad seats", x -> x.show(1, house, 0, -1));
        }
        for (int minute : new int[] {-1, 1440, LOW, HIGH}) {
            busy.refuses(BAD_VALUE, "show at minute " + minute, x -> x.show(0, 0, minute, 0));
        }
        for (int seats : new int[] {-1, 1000, LOW, HIGH}) {
            busy.refuses(BAD_VALUE, "show with seats " + seats, x -> x.show(0, 0, 0, seats));
        }
    }

    private static void promise5ShowTooMany() {
        full.refuses(TOO_MANY, "a show too many", x -> x.show(0, 0, 0, 0));
        full.refuses(TOO_MANY, "a late show too many", x -> x.show(4, 3, 1439, 999));
        full.refuses(BAD_VALUE, "a show too many at a bad minute", x -> x.show(0, 0, 1440, 0));
        full.refuses(BAD_VALUE, "a show too many with bad seats", x -> x.show(0, 0, 0, 1000));
        full.refuses(NO_SUCH, "a show too many of no film", x -> x.show(5, 0, 0, 0));
        full.refuses(NO_SUCH, "a show too many in no house", x -> x.show(0, 4, 0, 0));
    }

    private static void promise6Drop() {
        fresh.refuses(NO_SUCH, "drop(0) without shows", x -> x.drop(0));
        for (int show : new int[] {-1, 3, 19, LOW, HIGH}) {
            busy.refuses(NO_SUCH, "drop(" + show + ")", x -> x.drop(show));
        }
        for (int show : new int[] {-1, 20, LOW, HIGH}) {
            full.refuses(NO_SUCH, "drop(" + show + ")", x -> x.drop(show));
        }
    }

    private static void promise7Tear() {
        fresh.refuses(NO_SUCH, "tear without films", x -> x.tear(0, 0, 0));
        for (int film : new int[] {-1, 2, LOW, HIGH}) {
            busy.refuses(NO_SUCH, "tear of film " + film, x -> x.tear(film, 0, 0));
        }
        for (int reel : new int[] {-1, 2, 5, LOW, HIGH}) {
            busy.refuses(NO_SUCH, "tear of reel " + reel + " of two", x -> x.tear(0, reel, 0));
            busy.refuses(NO_SUCH, "tear of reel " + reel + " at a bad minute", x -> x.tear(0, reel, 1440));
        }
        busy.refuses(NO_SUCH, "tear of reel 6 of six", x -> x.tear(1, 6, 0));
        full.refuses(NO_SUCH, "tear of film 5", x -> x.tear(5, 0, 0));
        for (int minute : new int[] {-1, 1440, LOW, HIGH, NONE}) {
            busy.refuses(BAD_VALUE, "tear at " + minute, x -> x.tear(0, 0, minute));
            busy.refuses(BAD_VALUE, "tear at " + minute + " in place of another", x -> x.tear(0, 1, minute));
        }
    }

    private static void promise8Glue() {
        fresh.refuses(NO_SUCH, "glue without films", x -> x.glue(0, 0));
        for (int film : new int[] {-1, 2, LOW, HIGH}) {
            busy.refuses(NO_SUCH, "glue of film " + film, x -> x.glue(film, 0));
        }
        for (int reel : new int[] {-1, 2, 5, LOW, HIGH}) {
            busy.refuses(NO_SUCH, "glue of reel " + reel + " of two", x -> x.glue(0, reel));
        }
        busy.refuses(NO_SUCH, "glue of reel 6 of six", x -> x.glue(1, 6));
        busy.refuses(NOT_POSSIBLE, "glue of a reel for which none is told", x -> x.glue(0, 0));
        busy.refuses(NOT_POSSIBLE, "glue of the last reel, too", x -> x.glue(1, 5));
        full.refuses(NOT_POSSIBLE, "glue of a reel that was glued", x -> x.glue(3, 2));
    }

    private static void promise9OfFilm() {
        fresh.refuses(NO_SUCH, "ofFilm without films", x -> x.ofFilm(0, 0));
        for (int film : new int[] {-1, 2, LOW, HIGH}) {
            busy.refuses(NO_SUCH, "ofFilm(" + film + ", 0)", x -> x.ofFilm(film, 0));
            busy.refuses(NO_SUCH, "ofFilm(" + film + ", 6)", x -> x.ofFilm(film, 6));
        }
        for (int what : new int[] {-1, 6, LOW, HIGH}) {
            busy.refuses(BAD_VALUE, "ofFilm(1, " + what + ")", x -> x.ofFilm(1, what));
        }
        full.refuses(NO_SUCH, "ofFilm(5, 0)", x -> x.ofFilm(5, 0));
    }

    private static void promise10OfShow() {
        fresh.refuses(NO_SUCH, "ofShow without shows", x -> x.ofShow(0, 0));
        for (int show : new int[] {-1, 3, LOW, HIGH}) {
            busy.refuses(NO_SUCH, "ofShow(" + show + ", 0)", x -> x.ofShow(show, 0));
            busy.refuses(NO_SUCH, "ofShow(" + show + ", 12)", x -> x.ofShow(show, 12));
        }
        for (int what : new int[] {-1, 12, LOW, HIGH}) {
            busy.refuses(BAD_VALUE, "ofShow(2, " + what + ")", x -> x.ofShow(2, what));
        }
        full.refuses(NO_SUCH, "ofShow(20, 0)", x -> x.ofShow(20, 0));
    }

    private static void promise11Shown() {
        fresh.refuses(NO_SUCH, "shown without shows", x -> x.shown(0, 0));
        for (int show : new int[] {-1, 3, LOW, HIGH}) {
            busy.refuses(NO_SUCH, "shown(" + show + ", 0)", x -> x.shown(show, 0));
        }
        for (int reel : new int[] {-1, 2, 5, LOW, HIGH}) {
            busy.refuses(NO_SUCH, "shown(0, " + reel + ") of two reels", x -> x.shown(0, reel));
        }
        busy.refuses(NO_SUCH, "shown(1, 6) of six reels", x -> x.shown(1, 6));
        full.refuses(NO_SUCH, "shown(20, 0)", x -> x.shown(20, 0));
    }

    private static void promise12Where() {
        fresh.refuses(NO_SUCH, "where without films", x -> x.where(0, 0, 0));
        for (int film : new int[] {-1, 2, LOW, HIGH}) {
            busy.refuses(NO_SUCH, "where(" + film + ", 0, 0)", x -> x.where(film, 0, 0));
            busy.refuses(NO_SUCH, "where(" + film + ", 0, 10000)", x -> x.where(film, 0, 10000));
        }
        for (int reel : new int[] {-1, 2, 5, LOW, HIGH}) {
            busy.refuses(NO_SUCH, "where(0, " + reel + ", 0) of two reels", x -> x.where(0, reel, 0));
            busy.refuses(NO_SUCH, "where(0, " + reel + ", -1) of two reels", x -> x.where(0, reel, -1));
        }
        for (int minute : new int[] {-1, 10000, LOW, HIGH}) {
            busy.refuses(BAD_VALUE, "where(1, 5, " + minute + ")", x -> x.where(1, 5, minute));
        }
    }

    private static void promise13Count() {
        for (int what : new int[] {-1, 15, LOW, HIGH}) {
            fresh.refuses(BAD_VALUE, "count(" + what + ")", x -> x.count(what));
            full.refuses(BAD_VALUE, "count(" + what + ")", x -> x.count(what));
        }
    }

    private static void promise14OfHouse() {
        for (int house : new int[] {-1, 4, LOW, HIGH}) {
            busy.refuses(NO_SUCH, "ofHouse(" + house + ", 0)", x -> x.ofHouse(house, 0));
            busy.refuses(NO_SUCH, "ofHouse(" + house + ", 4)", x -> x.ofHouse(house, 4));
        }
        for (int what : new int[] {-1, 4, LOW, HIGH}) {
            busy.refuses(BAD_VALUE, "ofHouse(3, " + what + ")", x -> x.ofHouse(3, what));
        }
    }

    private static void promise15Advert() {
        for (int advert : new int[] {-1, 7, LOW, HIGH}) {
            busy.refuses(NO_SUCH, "advert(" + advert + ")", x -> x.advert(advert));
        }
    }

    private static void promise16FirstFree() {
        fresh.refuses(NO_SUCH, "firstFree without films", x -> x.firstFree(0, 0, 0));
        for (int film : new int[] {-1, 2, LOW, HIGH}) {
            busy.refuses(NO_SUCH, "firstFree(" + film + ", 0, 0)", x -> x.firstFree(film, 0, 0));
            busy.refuses(NO_SUCH, "firstFree(" + film + ", 0, 1440)", x -> x.firstFree(film, 0, 1440));
        }
        for (int house : new int[] {-1, 4, LOW, HIGH}) {
            busy.refuses(NO_SUCH, "firstFree(0, " + house + ", 0)", x -> x.firstFree(0, house, 0));
            busy.refuses(NO_SUCH, "firstFree(0, " + house + ", -1)", x -> x.firstFree(0, house, -1));
        }
        for (int from : new int[] {-1, 1440, LOW, HIGH}) {
            busy.refuses(BAD_VALUE, "firstFree(0, 0, " + from + ")", x -> x.firstFree(0, 0, from));
            full.refuses(BAD_VALUE, "firstFree(0, 0, " + from + ")", x -> x.firstFree(0, 0, from));
        }
        full.refuses(TOO_MANY, "firstFree with 20 shows", x -> x.firstFree(0, 0, 0));
        full.refuses(TOO_MANY, "firstFree with 20 shows, late", x -> x.firstFree(4, 3, 1439));
        full.refuses(NO_SUCH, "firstFree with 20 shows, of no film", x -> x.firstFree(5, 0, 0));
        full.refuses(NO_SUCH, "firstFree with 20 shows, in no house", x -> x.firstFree(0, 4, 0));
    }

    private static void promise17Slower() {
        for (int minutes : new int[] {-1, 100, LOW, HIGH}) {
            busy.refuses(BAD_VALUE, "slower(" + minutes + ")", x -> x.slower(minutes));
        }
    }

    private static void promise18Put() {
        long[] bad = {0, 1, 32, 127, 128, 255, ' ' << 8 | 'a', 'a' << 8 | ' ', 'a' << 8 | 127, 'a' << 8, 'a' << 16 | 'b',
            1L << 56 | 'a', 1L << 63, 1L << 63 | 'a', -1, Long.MIN_VALUE, Long.MAX_VALUE, 0x6161616161616120L,
            0x2061616161616161L, 0x7f61616161616161L, 0x8061616161616161L, 0x6161616161616100L, 0x6100616161616161L,
            0x0100616161616161L};
        for (long characters : bad) {
            busy.refuses(BAD_VALUE, "put(" + characters + ")", x -> x.put(characters));
            full.refuses(BAD_VALUE, "put(" + characters + ")", x -> x.put(characters));
        }
    }

    private static void promise18PutTooMany() {
        full.refuses(TOO_MANY, "put of one character onto 80", x -> x.put('1'));
        full.refuses(TOO_MANY, "put of eight characters onto 80", x -> x.put(0x3131313131313131L));
        for (int length = 73; length < 80; length++) {
            int left = 80 - length;
            Scene scene = new Scene("a pad of " + length, () -> padOf(left));
            String over = "12345678".substring(0, left + 1);
            scene.refuses(TOO_MANY, "put of " + over, x -> x.put(Checks.packed(over)));
        }
    }

    /** A text without a fault that leaves so many characters to its greatest length. */
    private static CircuitReels padOf(int left) {
        CircuitReels x = new CircuitReels();
        StringBuilder text = new StringBuilder("w01=5;-1");
        while (text.length() < 80 - left - 5) {
            text.append(";-2");
        }
        text.append(";-3456", 0, 80 - left - text.length());
        checks.due("a pad with room for " + left, Checks.write(x, text.toString()), 80 - left);
        checks.due("the fault of " + text, x.fault(), NONE);
        return x;
    }

    private static void promise21CarryOut() {
        fresh.refuses(BAD_TEXT, "carryOut of an empty pad", CircuitReels::carryOut);
        for (String text : new String[] {"x", "-", "-1;", "w01=5;f1@2%3;?", "w01=5;-00", "w01=10000"}) {
            Scene scene = new Scene("the text " + text, () -> {
                CircuitReels x = Circuits.busy();
                x.wipe();
                Checks.write(x, text);
                return x;
            });
            scene.refuses(BAD_TEXT, "carryOut", CircuitReels::carryOut);
        }
    }

    private static void promise22Undo() {
        fresh.refuses(NOT_POSSIBLE, "undo without a change", CircuitReels::undo);
        Scene undone = new Scene("all that can be undone is undone", () -> {
            CircuitReels x = Circuits.full();
            for (int times = 0; times < 6; times++) {
                x.undo();
            }
            return x;
        });
        undone.refuses(NOT_POSSIBLE, "undo", CircuitReels::undo);
    }

    private static void promise23Save() {
        for (int slot : new int[] {-1, 2, LOW, HIGH}) {
            fresh.refuses(BAD_VALUE, "save(" + slot + ")", x -> x.save(slot));
            full.refuses(BAD_VALUE, "save(" + slot + ")", x -> x.save(slot));
        }
    }

    private static void promise24Restore() {
        for (int slot : new int[] {-1, 2, LOW, HIGH}) {
            fresh.refuses(BAD_VALUE, "restore(" + slot + ")", x -> x.restore(slot));
            full.refuses(BAD_VALUE, "restore(" + slot + ")", x -> x.restore(slot));
        }
        fresh.refuses(NOT_POSSIBLE, "restore(0) without a save", x -> x.restore(0));
        fresh.refuses(NOT_POSSIBLE, "restore(1) without a save", x -> x.restore(1));
        busy.refuses(NOT_POSSIBLE, "restore(0) with a save in 1 alone", x -> x.restore(0));
    }
}
