/** Promises 1 to 8 and what they rest on: first values, the least and the greatest ones, empty and full. */
public final class LimitsTest {
    private static final int NO_SUCH = -1, TOO_MANY = -4, NOT_POSSIBLE = -5, NONE = -6;
    private static final int LAST = CircuitReels.LAST, WAIT = CircuitReels.WAIT, MEND = CircuitReels.MEND;
    private static final int ADVERTS = CircuitReels.ADVERTS, PRICE = CircuitReels.PRICE;
    private static final int[] LEAST = {1, 0, 0, 0, 0};
    private static final int[] MOST = {60, 60, 60, 9, 99};
    private static final int[] FIRST = {15, 5, 10, 3, 5};
    private static final Checks checks = new Checks();

    public static void main(String[] args) {
        promise1WithoutFilms();
        promise1ReelsAtHomeFromMinuteZero();
        promise1ObjectsAreApart();
        promise2FirstValues();
        promise2LeastAndMost();
        promise2ReturnsThePrevious();
        promise2LastOfOneAndOfSixty();
        promise2WaitOfZeroAndOfSixty();
        promise2MendOfZeroAndOfSixty();
        promise2PriceOfZeroAndOf99();
        promise3UpToFive();
        promise3LeastAndMost();
        promise3FewerAgain();
        promise4TenAtFirst();
        promise4SameInBothDirections();
        promise4LeastAndMost();
        promise5UpToTwenty();
        promise5LeastAndMost();
        promise5OneMoreBehindADrop();
        promise6ThoseBehindMoveUp();
        promise6DownToNone();
        promise7LeastAndMost();
        promise7InPlaceOfTheMinute();
        promise7EachReelHasItsOwn();
        promise8NoneIsTold();
        promise8TornNoMore();
        calls512();
        checks.end();
    }

    private static void due(String call, long got, long want) {
        checks.due(call, got, want);
    }

    /** "Creates a circuit without films." */
    private static void promise1WithoutFilms() {
        CircuitReels x = new CircuitReels();
        due("films", x.count(0), 0);
        due("shows", x.count(1), 0);
        for (int film = 0; film < 5; film++) {
            due("no film " + film, x.ofFilm(film, 0), NO_SUCH);
            due("no reel of film " + film, x.where(film, 0, 0), NO_SUCH);
            due("no show of film " + film, x.firstFree(film, 0, 0), NO_SUCH);
        }
        due("no show", x.ofShow(0, 0), NO_SUCH);
        due("no show to drop", x.drop(0), NO_SUCH);
        due("greatest end without shows", x.count(7), 0);
        due("length of the pad", x.count(13), 0);
        due("fault of the empty pad", x.fault(), 0);
        due("wipe of the empty pad", x.wipe(), 0);
        due("changes", x.count(14), 0);
        due("undo", x.undo(), NOT_POSSIBLE);
        due("restore(0)", x.restore(0), NOT_POSSIBLE);
        due("restore(1)", x.restore(1), NOT_POSSIBLE);
        due("slower(0)", x.slower(0), 1000);
        due("slower(99)", x.slower(99), 1000);
        for (int advert = 0; advert < 7; advert++) {
            due("advert " + advert, x.advert(advert), 0);
        }
    }

    /** "A home (a house, where all its reels are at first, free from the minute 0 on)." */
    private static void promise1ReelsAtHomeFromMinuteZero() {
        CircuitReels x = new CircuitReels();
        for (int home = 0; home < 4; home++) {
            int film = x.film(6, home, 0);
            for (int reel = 0; reel < 6; reel++) {
                due("where at minute 0", x.where(film, reel, 0), home);
                due("where at minute 9999", x.where(film, reel, 9999), home);
            }
            int show = x.show(film, home, 0, 0);
            due("shown at home at minute 0", x.shown(show, 0), 0);
            due("without waiting", x.ofShow(show, 6), 0);
            due("without missing", x.ofShow(show, 7), 0);
        }
    }

    private static void promise1ObjectsAreApart() {
        CircuitReels x = Circuits.full();
        CircuitReels y = new CircuitReels();
        due("films of another object", y.count(0), 0);
        due("pad of another object", y.count(13), 0);
        due("slot of another object", y.restore(0), NOT_POSSIBLE);
        y.film(1, 1, 1);
        y.set(PRICE, 99);
        due("films of the first one", x.count(0), 5);
        due("price of the first one", x.count(12), 9);
    }

    /** "LAST (1 to 60; 15), WAIT (0 to 60; 5), MEND (0 to 60; 10), ADVERTS (0 to 9; 3), PRICE (0 to 99; 5)." */
    private static void promise2FirstValues() {
        for (int setting = 0; setting < 5; setting++) {
            due("count of setting " + setting, new CircuitReels().count(8 + setting), FIRST[setting]);
            due("first set of " + setting, new CircuitReels().set(setting, LEAST[setting]), FIRST[setting]);
        }
    }

    private static void promise2LeastAndMost() {
        for (int setting = 0; setting < 5; setting++) {
            CircuitReels x = new CircuitReels();
            for (int value : new int[] {LEAST[setting], MOST[setting], LEAST[setting] + 1, MOST[setting] - 1}) {
                int before = x.count(8 + setting);
                due("set(" + setting + ", " + value + ")", x.set(setting, value), before);
                due("count behind it", x.count(8 + setting), value);
            }
            for (int other = 0; other < 5; other++) {
                if (other != setting) {
                    due("setting " + other + " stays", x.count(8 + other), FIRST[other]);
                }
            }
        }
    }

    /** "Returns the previous value", also when it is the same, or 0. */
    private static void promise2ReturnsThePrevious() {
        CircuitReels x = new CircuitReels();
        due("set of the same", x.set(WAIT, 5), 5);
        due("set to 0", x.set(WAIT, 0), 5);
        due("set of the same 0", x.set(WAIT, 0), 0);
        due("set from 0", x.set(WAIT, 60), 0);
        due("each is a change", x.count(14), 4);
    }

    private static void promise2LastOfOneAndOfSixty() {
        CircuitReels x = new CircuitReels();
        x.film(6, 0, 0);
        x.show(0, 0, 1439, 0);
        x.set(LAST, 1);
        due("six reels of one minute end", x.ofShow(0, 5), 1445);
        due("the sixth one is shown", x.shown(0, 5), 1444);
        x.set(LAST, 60);
        due("six reels of sixty minutes end", x.ofShow(0, 5), 1799);
        due("the sixth one is shown late", x.shown(0, 5), 1739);
        due("the greatest end", x.count(7), 1799);
    }

    private static void promise2WaitOfZeroAndOfSixty() {
        CircuitReels x = new CircuitReels();
        x.film(1, 0, 0);
        x.show(0, 0, 100, 0);
        x.show(0, 0, 114, 0);
        x.show(0, 0, 115, 0);
        x.set(WAIT, 0);
        due("one minute too late", x.shown(1, 0), NONE);
        due("there just by then", x.shown(2, 0), 115);
        x.set(LAST, 60);
        x.drop(2);
        x.drop(1);
        x.show(0, 0, 100, 0);
        x.set(WAIT, 59);
        due("there 60 minutes later, with 59", x.shown(1, 0), NONE);
        x.set(WAIT, 60);
        due("there 60 minutes later, with 60", x.shown(1, 0), 160);
        due("its waiting", x.ofShow(1, 6), 60);
    }

    private static void promise2MendOfZeroAndOfSixty() {
        CircuitReels x = new CircuitReels();
        x.film(1, 0, 0);
        x.show(0, 0, 100, 0);
        x.tear(0, 0, 100);
        x.show(0, 0, 115, 0);
        x.set(MEND, 0);
        due("free at once", x.shown(1, 0), 115);
        x.set(MEND, 60);
        due("not mended by then", x.shown(1, 0), NONE);
        x.set(WAIT, 60);
        due("mended 60 minutes later", x.shown(1, 0), 175);
    }

    private static void promise2PriceOfZeroAndOf99() {
        CircuitReels x = new CircuitReels();
        x.film(1, 0, 100);
        for (int show = 0; show < 20; show++) {
            x.show(0, 0, 15 * show, 999);
        }
        x.set(PRICE, 0);
        due("takings without a price", x.count(5), 0);
        due("rentals without a price", x.count(6), 0);
        x.set(PRICE, 99);
        due("takings of one show", x.ofShow(19, 8), 98901);
        due("the greatest takings", x.count(5), 1978020);
        due("the greatest rentals", x.count(6), 1978020);
        due("of the film", x.ofFilm(0, 5), 1978020);
        due("of the house", x.ofHouse(0, 1), 1978020);
        due("rentals of the house", x.ofHouse(0, 2), 1978020);
    }

    /** "There are up to 5 films, numbered in the order in which they came." */
    private static void promise3UpToFive() {
        CircuitReels x = new CircuitReels();
        for (int film = 0; film < 5; film++) {
            due("film " + film + " is not there", x.ofFilm(film, 0), NO_SUCH);
            due("film " + film, x.film(1, 0, film), film);
            due("films", x.count(0), film + 1);
        }
        due("a sixth film", x.film(1, 0, 0), TOO_MANY);
        for (int film = 0; film < 5; film++) {
            due("rental of film " + film, x.ofFilm(film, 2), film);
        }
        due("the fifth film is shown", x.show(4, 0, 0, 0), 0);
    }

    /** "1 to 6 reels, a home, and a rental (0 to 100 hundredths)." */
    private static void promise3LeastAndMost() {
        CircuitReels x = new CircuitReels();
        due("the least film", x.film(1, 0, 0), 0);
        due("the greatest film", x.film(6, 3, 100), 1);
        int[] least = {1, 0, 0, 0, 0, 0};
        int[] most = {6, 3, 100, 0, 0, 0};
        for (int what = 0; what < 6; what++) {
            due("ofFilm(0, " + what + ")", x.ofFilm(0, what), least[what]);
            due("ofFilm(1, " + what + ")", x.ofFilm(1, what), most[what]);
        }
        x.show(0, 0, 0, 0);
        x.show(1, 3, 0, 0);
        due("its only reel", x.shown(0, 0), 0);
        due("no second reel", x.shown(0, 1), NO_SUCH);
        due("its sixth reel", x.shown(1, 5), 75);
        due("no seventh reel", x.shown(1, 6), NO_SUCH);
    }

    /** A film that is undone is none: its number is given again, and nothing is left of its tears. */
    private static void promise3FewerAgain() {
        CircuitReels x = new CircuitReels();
        x.film(6, 2, 70);
        x.tear(0, 5, 40);
        x.undo();
        x.undo();
        due("no film", x.ofFilm(0, 0), NO_SUCH);
        due("no reel", x.glue(0, 5), NO_SUCH);
        due("the number again", x.film(6, 1, 0), 0);
        due("its home", x.ofFilm(0, 1), 1);
        due("no tear", x.glue(0, 5), NOT_POSSIBLE);
    }

    /** "Between each two of them there is a way of some minutes (1 to 99; 10 at first)." */
    private static void promise4TenAtFirst() {
        for (int one = 0; one < 4; one++) {
            for (int other = 0; other < 4; other++) {
                if (one != other) {
                    due("way(" + one + ", " + other + ")", new CircuitReels().way(one, other, 1), 10);
                }
            }
        }
    }

    /** "The same in both directions." */
    private static void promise4SameInBothDirections() {
        CircuitReels x = new CircuitReels();
        int minutes = 20;
        for (int one = 0; one < 4; one++) {
            for (int other = one + 1; other < 4; other++) {
                x.way(one, other, minutes++);
            }
        }
        minutes = 20;
        for (int one = 0; one < 4; one++) {
            for (int other = one + 1; other < 4; other++) {
                due("way(" + other + ", " + one + ")", x.way(other, one, minutes), minutes);
                due("way(" + one + ", " + other + ")", x.way(one, other, minutes), minutes++);
            }
        }
    }

    private static void promise4LeastAndMost() {
        CircuitReels x = new CircuitReels();
        x.film(1, 0, 0);
        x.show(0, 1, 200, 0);
        due("the greatest way", x.way(0, 1, 99), 10);
        due("on its way at 98", x.where(0, 0, 98), NONE);
        due("there at 99", x.where(0, 0, 99), 1);
        due("the least way", x.way(1, 0, 1), 99);
        due("on its way at 0", x.where(0, 0, 0), NONE);
        due("there at 1", x.where(0, 0, 1), 1);
        due("the same again", x.way(1, 0, 1), 1);
        due("each is a change", x.count(14), 5);
    }

    /** "There are up to 20 shows, numbered in the order in which they came." */
    private static void promise5UpToTwenty() {
        CircuitReels x = new CircuitReels();
        x.film(1, 0, 0);
        for (int show = 0; show < 20; show++) {
            due("show " + show + " is not there", x.ofShow(show, 2), NO_SUCH);
            due("show " + show, x.show(0, 0, 1000 - show, show), show);
            due("shows", x.count(1), show + 1);
        }
        due("a show too many", x.show(0, 0, 0, 0), TOO_MANY);
        for (int show = 0; show < 20; show++) {
            due("minute of show " + show, x.ofShow(show, 2), 1000 - show);
            due("seats of show " + show, x.ofShow(show, 3), show);
            due("place of show " + show, x.ofShow(show, 4), 19 - show);
        }
        due("shows of the film", x.ofFilm(0, 3), 20);
        due("shows of the house", x.ofHouse(0, 0), 20);
    }

    /** "A minute (0 to 1439), and seats that are sold (0 to 999)." */
    private static void promise5LeastAndMost() {
        CircuitReels x = new CircuitReels();
        x.film(1, 0, 0);
        x.film(1, 3, 0);
        due("the least show", x.show(0, 0, 0, 0), 0);
        due("the greatest show", x.show(1, 3, 1439, 999), 1);
        int[] least = {0, 0, 0, 0};
        int[] most = {1, 3, 1439, 999};
        for (int what = 0; what < 4; what++) {
            due("ofShow(0, " + what + ")", x.ofShow(0, what), least[what]);
            due("ofShow(1, " + what + ")", x.ofShow(1, what), most[what]);
        }
    }

    private static void promise5OneMoreBehindADrop() {
        CircuitReels x = Circuits.full();
        due("no place", x.show(0, 0, 1, 2), TOO_MANY);
        due("a place behind a drop", x.drop(0), 19);
        due("the last number", x.show(0, 3, 1, 2), 19);
        due("its house", x.ofShow(19, 1), 3);
        due("its minute", x.ofShow(19, 2), 1);
        due("its seats", x.ofShow(19, 3), 2);
        due("no place again", x.show(0, 0, 1, 2), TOO_MANY);
    }

    /** "When one is dropped, those behind it move up." */
    private static void promise6ThoseBehindMoveUp() {
        for (int dropped = 0; dropped < 20; dropped++) {
            CircuitReels x = new CircuitReels();
            for (int film = 0; film < 5; film++) {
                x.film(1, 0, 0);
            }
            for (int show = 0; show < 20; show++) {
                x.show(show % 5, show / 5, 30 * show, 20 + show);
            }
            due("drop(" + dropped + ")", x.drop(dropped), 19);
            for (int show = 0; show < 19; show++) {
                int was = show < dropped ? show : show + 1;
                due("film of " + show, x.ofShow(show, 0), was % 5);
                due("house of " + show, x.ofShow(show, 1), was / 5);
                due("minute of " + show, x.ofShow(show, 2), 30 * was);
                due("seats of " + show, x.ofShow(show, 3), 20 + was);
                due("place of " + show, x.ofShow(show, 4), show);
            }
            due("no show 19", x.ofShow(19, 0), NO_SUCH);
            due("no drop(19)", x.drop(19), NO_SUCH);
        }
    }

    /** "Returns how many shows there are then." */
    private static void promise6DownToNone() {
        CircuitReels x = Circuits.full();
        for (int left = 19; left >= 0; left--) {
            due("drop of the last one", x.drop(left), left);
        }
        due("drop of none", x.drop(0), NO_SUCH);
        due("the greatest end without shows", x.count(7), 0);
        due("a first show again", x.show(0, 0, 700, 0), 0);
    }

    /** "minute: 0 to 1439." */
    private static void promise7LeastAndMost() {
        CircuitReels x = new CircuitReels();
        x.film(1, 0, 0);
        x.set(WAIT, 60);
        x.show(0, 0, 0, 0);
        x.show(0, 0, 0, 0);
        x.show(0, 0, 1439, 0);
        x.show(0, 0, 1439, 0);
        due("tear at minute 0", x.tear(0, 0, 0), NONE);
        due("it counts for a show at minute 0", x.shown(1, 0), 25);
        due("and for none behind it", x.shown(3, 0), 1454);
        due("tear at minute 1439", x.tear(0, 0, 1439), 0);
        due("it counts for none ahead of it", x.shown(1, 0), 15);
        due("it counts for a show at minute 1439", x.shown(3, 0), 1464);
        due("the minute told", x.glue(0, 0), 1439);
    }

    /** "In place of the minute that was told for it", "Returns the previous minute (NONE)." */
    private static void promise7InPlaceOfTheMinute() {
        CircuitReels x = new CircuitReels();
        x.film(1, 0, 0);
        due("the first tear", x.tear(0, 0, 5), NONE);
        due("the second one", x.tear(0, 0, 0), 5);
        due("a previous minute 0 is no NONE", x.tear(0, 0, 0), 0);
        due("the same again is a change", x.count(14), 4);
        due("glue", x.glue(0, 0), 0);
        due("glue of none", x.glue(0, 0), NOT_POSSIBLE);
        due("a tear behind glue", x.tear(0, 0, 9), NONE);
    }

    private static void promise7EachReelHasItsOwn() {
        CircuitReels x = new CircuitReels();
        for (int film = 0; film < 5; film++) {
            x.film(6, 0, 0);
        }
        for (int reel = 0; reel < 30; reel++) {
            due("tear of reel " + reel, x.tear(reel / 6, reel % 6, 40 * reel), NONE);
        }
        for (int reel = 29; reel >= 0; reel--) {
            due("glue of reel " + reel, x.glue(reel / 6, reel % 6), 40 * reel);
            due("glue again", x.glue(reel / 6, reel % 6), NOT_POSSIBLE);
        }
    }

    /** "NOT_POSSIBLE if none is told." */
    private static void promise8NoneIsTold() {
        CircuitReels x = new CircuitReels();
        x.film(6, 0, 0);
        x.tear(0, 2, 0);
        for (int reel = 0; reel < 6; reel++) {
            due("glue of reel " + reel, x.glue(0, reel), reel == 2 ? 0 : NOT_POSSIBLE);
        }
        due("only one was a change", x.count(14), 3);
        x.tear(0, 2, 7);
        x.undo();
        due("glue behind an undone tear", x.glue(0, 2), NOT_POSSIBLE);
        x.undo();
        due("glue behind an undone glue", x.glue(0, 2), 0);
    }

    /** "Makes a reel one that is not torn." */
    private static void promise8TornNoMore() {
        CircuitReels x = new CircuitReels();
        x.film(1, 0, 0);
        x.set(WAIT, 60);
        x.show(0, 0, 100, 0);
        x.show(0, 0, 100, 0);
        x.tear(0, 0, 100);
        due("torn", x.shown(1, 0), 125);
        due("glue tells the minute also when a show has mended it", x.glue(0, 0), 100);
        due("not torn", x.shown(1, 0), 115);
        x.undo();
        due("torn again", x.shown(1, 0), 125);
    }

    /** "An object is used for at most 512 calls": the last ones are as good as the first ones. */
    private static void calls512() {
        CircuitReels x = new CircuitReels();
        x.film(6, 0, 50);
        for (int show = 0; show < 19; show++) {
            x.show(0, show % 4, 70 * show, 40);
        }
        for (int call = 20; call < 508; call += 4) {
            due("firstFree", x.firstFree(0, 1, 1261), 1285);
            due("set", x.set(ADVERTS, call % 10), call == 20 ? 3 : (call - 4) % 10);
            due("slower", x.slower(0), 1000);
            due("changes", x.count(14), 6);
        }
        x.show(0, 3, 1439, 1);
        due("call 510", x.count(1), 20);
        due("call 511", x.undo(), 5);
        due("call 512", x.count(1), 19);
    }
}
