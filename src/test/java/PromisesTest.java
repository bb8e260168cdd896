/** One method for each promise of the document: ordinary inputs, edges, wrong inputs. */
public final class PromisesTest {
    private static final int NO_SUCH = -1, BAD_VALUE = -2, BAD_TEXT = -3, TOO_MANY = -4, NOT_POSSIBLE = -5, NONE = -6;
    private static final int LOW = Integer.MIN_VALUE, HIGH = Integer.MAX_VALUE;
    private static final Checks checks = new Checks();

    public static void main(String[] args) {
        promise1New();
        promise2Set();
        promise3Film();
        promise4Way();
        promise5Show();
        promise6Drop();
        promise7Tear();
        promise8Glue();
        promise9OfFilm();
        promise10OfShow();
        promise10Order();
        promise10Waits();
        promise10Money();
        promise11Shown();
        promise12Where();
        promise13Count();
        promise14OfHouse();
        promise15Advert();
        promise16FirstFree();
        promise17Slower();
        promise18Put();
        promise19Wipe();
        promise20Fault();
        promise21CarryOut();
        promise22Undo();
        promise22UndoAll();
        promise23Save();
        promise24Restore();
        checks.end();
    }

    private static void due(String call, long got, long want) {
        checks.due(call, got, want);
    }

    private static void promise1New() {
        CircuitReels x = new CircuitReels();
        int[] first = {0, 0, 0, 0, 0, 0, 0, 0, 15, 5, 10, 3, 5, 0, 0};
        for (int what = 0; what < first.length; what++) {
            due("new: count(" + what + ")", x.count(what), first[what]);
        }
        for (int house = 0; house < 4; house++) {
            for (int what = 0; what < 4; what++) {
                due("new: ofHouse(" + house + ", " + what + ")", x.ofHouse(house, what), 0);
            }
        }
        due("new: ofFilm(0, 0)", x.ofFilm(0, 0), NO_SUCH);
        due("new: ofShow(0, 0)", x.ofShow(0, 0), NO_SUCH);
        due("new: undo()", x.undo(), NOT_POSSIBLE);
        due("new: restore(0)", x.restore(0), NOT_POSSIBLE);
        due("new: way(1, 2, 5)", x.way(1, 2, 5), 10);
    }

    private static void promise2Set() {
        int[] least = {1, 0, 0, 0, 0};
        int[] most = {60, 60, 60, 9, 99};
        int[] first = {15, 5, 10, 3, 5};
        CircuitReels x = new CircuitReels();
        for (int setting = 0; setting < 5; setting++) {
            due("set below", x.set(setting, least[setting] - 1), BAD_VALUE);
            due("set above", x.set(setting, most[setting] + 1), BAD_VALUE);
            due("set least", x.set(setting, least[setting]), first[setting]);
            due("set most", x.set(setting, most[setting]), least[setting]);
            due("what is set", x.count(8 + setting), most[setting]);
            due("set wild", x.set(setting, LOW), BAD_VALUE);
        }
        due("set(-1)", x.set(-1, 1), BAD_VALUE);
        due("set(5)", x.set(5, 1), BAD_VALUE);
        due("set(HIGH)", x.set(HIGH, 1), BAD_VALUE);
        due("changes of set", x.count(14), 6);
    }

    private static void promise3Film() {
        CircuitReels x = new CircuitReels();
        due("film(7, 9, 0)", x.film(7, 9, 0), BAD_VALUE);
        due("film(0, 0, 0)", x.film(0, 0, 0), BAD_VALUE);
        due("film(1, 9, -1)", x.film(1, 9, -1), BAD_VALUE);
        due("film(1, 9, 101)", x.film(1, 9, 101), BAD_VALUE);
        due("film(1, 4, 0)", x.film(1, 4, 0), NO_SUCH);
        due("film(1, -1, 0)", x.film(1, -1, 0), NO_SUCH);
        for (int film = 0; film < 5; film++) {
            due("film", x.film(film + 2, film % 4, film * 25), film);
        }
        due("a sixth film", x.film(1, 0, 0), TOO_MANY);
        due("a sixth film at no house", x.film(1, 4, 0), NO_SUCH);
        due("a sixth film without reels", x.film(0, 0, 0), BAD_VALUE);
        due("ofFilm(4, 0)", x.ofFilm(4, 0), 6);
        due("ofFilm(3, 1)", x.ofFilm(3, 1), 3);
        due("ofFilm(4, 2)", x.ofFilm(4, 2), 100);
        due("count(0)", x.count(0), 5);
        due("count(14)", x.count(14), 5);
    }

    private static void promise4Way() {
        CircuitReels x = new CircuitReels();
        due("way(4, 4, 0)", x.way(4, 4, 0), NO_SUCH);
        due("way(0, 4, 1)", x.way(0, 4, 1), NO_SUCH);
        due("way(-1, 0, 1)", x.way(-1, 0, 1), NO_SUCH);
        due("way(LOW, HIGH, 1)", x.way(LOW, HIGH, 1), NO_SUCH);
        due("way(2, 2, 5)", x.way(2, 2, 5), BAD_VALUE);
        due("way(0, 1, 0)", x.way(0, 1, 0), BAD_VALUE);
        due("way(0, 1, 100)", x.way(0, 1, 100), BAD_VALUE);
        due("count(14)", x.count(14), 0);
        due("way(0, 1, 99)", x.way(0, 1, 99), 10);
        due("way(1, 0, 1)", x.way(1, 0, 1), 99);
        due("way(0, 1, 7)", x.way(0, 1, 7), 1);
        due("way(0, 2, 7)", x.way(0, 2, 7), 10);
        due("way(3, 2, 7)", x.way(3, 2, 7), 10);
        due("count(14)", x.count(14), 5);
    }

    private static void promise5Show() {
        CircuitReels x = new CircuitReels();
        due("show without films", x.show(0, 0, 0, 0), NO_SUCH);
        x.film(2, 1, 50);
        due("show(1, 0, -1, 0)", x.show(1, 0, -1, 0), NO_SUCH);
        due("show(0, 4, -1, 0)", x.show(0, 4, -1, 0), NO_SUCH);
        due("show(-1, 0, 0, 0)", x.show(-1, 0, 0, 0), NO_SUCH);
        due("show(0, -1, 0, 0)", x.show(0, -1, 0, 0), NO_SUCH);
        due("show(0, 0, -1, 0)", x.show(0, 0, -1, 0), BAD_VALUE);
        due("show(0, 0, 1440, 0)", x.show(0, 0, 1440, 0), BAD_VALUE);
        due("show(0, 0, 0, -1)", x.show(0, 0, 0, -1), BAD_VALUE);
        due("show(0, 0, 0, 1000)", x.show(0, 0, 0, 1000), BAD_VALUE);
        for (int show = 0; show < 20; show++) {
            due("show", x.show(0, show % 4, show == 0 ? 1439 : 0, show == 1 ? 999 : 0), show);
        }
        due("a show too many", x.show(0, 0, 0, 0), TOO_MANY);
        due("a bad show too many", x.show(0, 0, 1440, 0), BAD_VALUE);
        due("a show too many of no film", x.show(1, 0, 0, 0), NO_SUCH);
        due("count(1)", x.count(1), 20);
        due("ofShow(0, 2)", x.ofShow(0, 2), 1439);
        due("ofShow(1, 3)", x.ofShow(1, 3), 999);
    }

    private static void promise6Drop() {
        CircuitReels x = new CircuitReels();
        x.film(1, 0, 0);
        x.film(1, 0, 0);
        due("drop(0) of none", x.drop(0), NO_SUCH);
        x.show(0, 1, 10, 5);
        x.show(1, 2, 20, 6);
        x.show(0, 3, 30, 7);
        due("drop(-1)", x.drop(-1), NO_SUCH);
        due("drop(3)", x.drop(3), NO_SUCH);
        due("changes", x.count(14), 5);
        due("drop(0)", x.drop(0), 2);
        due("ofShow(0, 0)", x.ofShow(0, 0), 1);
        due("ofShow(0, 1)", x.ofShow(0, 1), 2);
        due("ofShow(0, 2)", x.ofShow(0, 2), 20);
        due("ofShow(0, 3)", x.ofShow(0, 3), 6);
        due("ofShow(1, 2)", x.ofShow(1, 2), 30);
        due("ofShow(2, 2)", x.ofShow(2, 2), NO_SUCH);
        due("drop(1)", x.drop(1), 1);
        due("drop(0)", x.drop(0), 0);
        for (int show = 0; show < 20; show++) {
            x.show(0, 0, show, 0);
        }
        due("drop(19)", x.drop(19), 19);
        due("ofShow(18, 2)", x.ofShow(18, 2), 18);
    }

    private static void promise7Tear() {
        CircuitReels x = new CircuitReels();
        x.film(2, 0, 0);
        due("tear(1, 0, -1)", x.tear(1, 0, -1), NO_SUCH);
        due("tear(0, 2, -1)", x.tear(0, 2, -1), NO_SUCH);
        due("tear(0, -1, 0)", x.tear(0, -1, 0), NO_SUCH);
        due("tear(-1, 0, 0)", x.tear(-1, 0, 0), NO_SUCH);
        due("tear(0, 0, -1)", x.tear(0, 0, -1), BAD_VALUE);
        due("tear(0, 0, 1440)", x.tear(0, 0, 1440), BAD_VALUE);
        due("changes", x.count(14), 1);
        due("tear(0, 0, 0)", x.tear(0, 0, 0), NONE);
        due("changes", x.count(14), 2);
        due("tear(0, 0, 1439)", x.tear(0, 0, 1439), 0);
        due("tear(0, 1, 100)", x.tear(0, 1, 100), NONE);
        due("tear(0, 0, 100)", x.tear(0, 0, 100), 1439);
        x.set(CircuitReels.WAIT, 60);
        x.show(0, 0, 99, 0);
        x.show(0, 0, 100, 0);
        x.show(0, 0, 101, 0);
        due("shown ahead of the tear", x.shown(0, 0), 99);
        due("shown and torn", x.shown(1, 0), 114);
        due("its last reel ends", x.ofShow(1, 5), 144);
        due("shown when mended", x.shown(2, 0), 139);
        due("the reel behind it is mended too", x.shown(2, 1), 154);
        x.tear(0, 0, 101);
        due("shown and not torn yet", x.shown(2, 0), 129);
        x.set(CircuitReels.WAIT, 27);
        x.show(0, 0, 102, 0);
        x.tear(0, 0, 101);
        due("missed, so not torn", x.shown(2, 0), NONE);
        due("missed, so the next one is due at once, and too late", x.shown(2, 1), NONE);
        due("shown and torn in the one behind it", x.shown(3, 0), 129);
        due("the reel behind it is still mended", x.shown(3, 1), 154);
        x.drop(3);
        x.show(0, 0, 200, 0);
        x.show(0, 0, 201, 0);
        due("shown when mended, in the show behind it", x.shown(4, 0), 225);
        x.glue(0, 0);
        due("not torn in it", x.shown(4, 0), 215);
    }

    private static void promise8Glue() {
        CircuitReels x = new CircuitReels();
        x.film(3, 0, 0);
        due("glue(0, 0) of none", x.glue(0, 0), NOT_POSSIBLE);
        due("glue(1, 0)", x.glue(1, 0), NO_SUCH);
        due("glue(0, 3)", x.glue(0, 3), NO_SUCH);
        due("glue(0, -1)", x.glue(0, -1), NO_SUCH);
        due("glue(-1, 0)", x.glue(-1, 0), NO_SUCH);
        x.tear(0, 2, 0);
        x.tear(0, 1, 77);
        x.show(0, 0, 10, 0);
        due("changes", x.count(14), 4);
        due("glue(0, 2), mended already", x.glue(0, 2), 0);
        due("glue(0, 2) again", x.glue(0, 2), NOT_POSSIBLE);
        due("glue(0, 1)", x.glue(0, 1), 77);
        due("tear(0, 1, 5)", x.tear(0, 1, 5), NONE);
        due("changes", x.count(14), 6);
    }

    private static void promise9OfFilm() {
        CircuitReels x = new CircuitReels();
        x.film(2, 1, 33);
        x.film(1, 2, 100);
        x.show(0, 1, 0, 11);
        x.show(1, 2, 0, 7);
        x.show(0, 3, 100, 12);
        x.show(0, 1, 200, 0);
        x.show(0, 1, 300, 13);
        int[] first = {2, 1, 33, 4, 4, 18 + 19 + 21};
        int[] second = {1, 2, 100, 1, 0, 35};
        for (int what = 0; what < 6; what++) {
            due("ofFilm(0, " + what + ")", x.ofFilm(0, what), first[what]);
            due("ofFilm(1, " + what + ")", x.ofFilm(1, what), second[what]);
        }
        due("ofFilm(2, 9)", x.ofFilm(2, 9), NO_SUCH);
        due("ofFilm(-1, 0)", x.ofFilm(-1, 0), NO_SUCH);
        due("ofFilm(0, -1)", x.ofFilm(0, -1), BAD_VALUE);
        due("ofFilm(0, 6)", x.ofFilm(0, 6), BAD_VALUE);
        x.set(CircuitReels.WAIT, 0);
        x.show(0, 3, 30, 100);
        due("missed reels are not carried", x.ofFilm(0, 4), 4);
    }

    private static void promise10OfShow() {
        CircuitReels x = new CircuitReels();
        x.film(3, 0, 40);
        x.show(0, 0, 60, 100);
        x.show(0, 1, 70, 51);
        x.set(CircuitReels.WAIT, 14);
        x.way(0, 1, 14);
        // Reel 0 is there at 89, 19 late; reel 1 at 104, and reel 2 at 119, both too late.
        int[] second = {0, 1, 70, 51, 1, 70, 0, 7, 255, 255, 0, 3};
        int[] first = {0, 0, 60, 100, 0, 105, 0, 0, 500, 0, 200, 0};
        for (int what = 0; what < 12; what++) {
            due("ofShow(0, " + what + ")", x.ofShow(0, what), first[what]);
            due("ofShow(1, " + what + ")", x.ofShow(1, what), second[what]);
        }
        due("ofShow(2, 12)", x.ofShow(2, 12), NO_SUCH);
        due("ofShow(-1, 0)", x.ofShow(-1, 0), NO_SUCH);
        due("ofShow(0, -1)", x.ofShow(0, -1), BAD_VALUE);
        due("ofShow(0, 12)", x.ofShow(0, 12), BAD_VALUE);
    }

    private static void promise10Order() {
        CircuitReels x = new CircuitReels();
        x.film(1, 0, 0);
        int[] minutes = {500, 30, 500, 0, 30, 1439, 500};
        int[] places = {3, 1, 4, 0, 2, 6, 5};
        for (int minute : minutes) {
            x.show(0, 0, minute, 0);
        }
        for (int show = 0; show < 7; show++) {
            due("place of " + show, x.ofShow(show, 4), places[show]);
            due("first advert of " + show, x.ofShow(show, 11), places[show] * 3 % 7);
        }
        x.drop(1);
        due("place of 3 behind a drop", x.ofShow(3, 4), 1);
        x.set(CircuitReels.ADVERTS, 0);
        due("first advert without adverts", x.ofShow(0, 11), NONE);
        x.set(CircuitReels.ADVERTS, 9);
        due("first advert with nine", x.ofShow(0, 11), 2 * 9 % 7);
    }

    private static void promise10Waits() {
        CircuitReels x = new CircuitReels();
        x.film(2, 0, 0);
        x.set(CircuitReels.WAIT, 10);
        x.show(0, 1, 0, 0);
        due("a wait of just WAIT minutes", x.ofShow(0, 6), 10);
        due("its end", x.ofShow(0, 5), 40);
        x.set(CircuitReels.WAIT, 9);
        due("a minute too late", x.ofShow(0, 7), 3);
        due("no wait for what is missed", x.ofShow(0, 6), 0);
        x.set(CircuitReels.LAST, 10);
        x.drop(0);
        x.show(0, 0, 100, 0);
        x.show(0, 2, 120, 0);
        due("on time", x.ofShow(1, 7), 0);
        x.tear(0, 0, 0);
        x.set(CircuitReels.MEND, 21);
        due("the torn one is missed", x.ofShow(1, 7), 3);
        due("the other one is due at the beginning, and there 10 later", x.shown(1, 1), NONE);
        x.set(CircuitReels.WAIT, 10);
        due("and waited for with more patience", x.shown(1, 1), 130);
        due("the set of the missed", x.ofShow(1, 7), 1);
        due("the end behind it", x.ofShow(1, 5), 140);
        x.set(CircuitReels.WAIT, 11);
        due("there 21 late, so still missed", x.ofShow(1, 7), 1);
        x.set(CircuitReels.WAIT, 21);
        due("waited for", x.ofShow(1, 6), 21);
        due("shown when mended and carried", x.shown(1, 0), 141);
    }

    private static void promise10Money() {
        CircuitReels x = new CircuitReels();
        x.set(CircuitReels.PRICE, 7);
        x.set(CircuitReels.WAIT, 0);
        x.film(3, 0, 33);
        x.show(0, 0, 0, 0);
        x.show(0, 0, 45, 29);
        x.set(CircuitReels.MEND, 60);
        x.tear(0, 2, 0);
        // Of three reels one is missed: 203 / 3 is 67, left are 136, and 44.88 of them are the rental.
        due("missed", x.ofShow(1, 7), 4);
        due("takings", x.ofShow(1, 8), 203);
        due("given back", x.ofShow(1, 9), 67);
        due("rental", x.ofShow(1, 10), 44);
        due("takings of no seats", x.ofShow(0, 8), 0);
        due("all takings less what is given back", x.count(5), 136);
        due("all rentals", x.count(6), 44);
        x.set(CircuitReels.PRICE, 0);
        due("takings without a price", x.ofShow(1, 8), 0);
    }

    private static void promise11Shown() {
        CircuitReels x = new CircuitReels();
        x.film(2, 0, 0);
        due("shown(0, 0) of none", x.shown(0, 0), NO_SUCH);
        x.show(0, 0, 50, 0);
        x.show(0, 1, 50, 0);
        due("shown(0, 0)", x.shown(0, 0), 50);
        due("shown(0, 1)", x.shown(0, 1), 65);
        due("shown(1, 0)", x.shown(1, 0), NONE);
        due("shown(0, 2)", x.shown(0, 2), NO_SUCH);
        due("shown(0, -1)", x.shown(0, -1), NO_SUCH);
        due("shown(-1, 0)", x.shown(-1, 0), NO_SUCH);
        due("shown(2, 0)", x.shown(2, 0), NO_SUCH);
        x.set(CircuitReels.WAIT, 25);
        due("shown(1, 0) with patience", x.shown(1, 0), 75);
        due("shown(1, 1) with patience", x.shown(1, 1), 90);
    }

    private static void promise12Where() {
        CircuitReels x = new CircuitReels();
        x.film(1, 3, 0);
        due("where(1, 0, -1)", x.where(1, 0, -1), NO_SUCH);
        due("where(0, 1, -1)", x.where(0, 1, -1), NO_SUCH);
        due("where(0, -1, 0)", x.where(0, -1, 0), NO_SUCH);
        due("where(-1, 0, 0)", x.where(-1, 0, 0), NO_SUCH);
        due("where(0, 0, -1)", x.where(0, 0, -1), BAD_VALUE);
        due("where(0, 0, 10000)", x.where(0, 0, 10000), BAD_VALUE);
        due("where(0, 0, 9999)", x.where(0, 0, 9999), 3);
        x.show(0, 1, 100, 0);
        x.show(0, 1, 200, 0);
        x.tear(0, 0, 150);
        x.show(0, 2, 205, 0);
        x.show(0, 0, 300, 0);
        int[] minutes = {0, 9, 10, 99, 115, 200, 224, 225, 234, 235, 300, 315, 9999};
        int[] houses = {NONE, NONE, 1, 1, 1, 1, 1, NONE, NONE, 0, 0, 0, 0};
        due("the one in which it is missed", x.shown(2, 0), NONE);
        for (int index = 0; index < minutes.length; index++) {
            due("where(0, 0, " + minutes[index] + ")", x.where(0, 0, minutes[index]), houses[index]);
        }
        x.drop(3);
        due("it stays when it is not shown again", x.where(0, 0, 225), 1);
    }

    private static void promise13Count() {
        CircuitReels x = new CircuitReels();
        x.film(3, 0, 40);
        x.film(1, 1, 10);
        x.set(CircuitReels.WAIT, 20);
        x.show(0, 0, 60, 100);
        x.show(0, 1, 70, 50);
        x.show(0, 2, 70, 50);
        x.show(1, 1, 1000, 3);
        x.drop(3);
        x.show(1, 1, 200, 3);
        Checks.write(x, "-0;");
        // Show 0 ends at 105, show 1 waits 15 and ends at 130, show 2 misses all, show 3 ends at 215.
        int[] all = {2, 4, 15, 3, 3, 765, 301, 215, 15, 20, 10, 3, 5, 3, 6};
        for (int what = 0; what < all.length; what++) {
            due("count(" + what + ")", x.count(what), all[what]);
        }
        due("count(-1)", x.count(-1), BAD_VALUE);
        due("count(15)", x.count(15), BAD_VALUE);
        due("count(HIGH)", x.count(HIGH), BAD_VALUE);
        x.show(0, 3, 1439, 0);
        x.way(0, 3, 99);
        x.show(0, 0, 1439, 0);
        due("a show without reels ends with its minute", x.ofShow(5, 5), 1439);
        due("the greatest end", x.count(7), 1439 + 45);
    }

    private static void promise14OfHouse() {
        CircuitReels x = new CircuitReels();
        x.film(3, 0, 40);
        x.film(1, 1, 10);
        x.set(CircuitReels.WAIT, 20);
        x.show(0, 0, 60, 100);
        x.show(0, 1, 70, 50);
        x.show(0, 2, 70, 50);
        x.show(1, 1, 200, 3);
        int[][] of = {{1, 500, 200, 0}, {2, 265, 101, 15}, {1, 0, 0, 0}, {0, 0, 0, 0}};
        for (int house = 0; house < 4; house++) {
            for (int what = 0; what < 4; what++) {
                due("ofHouse(" + house + ", " + what + ")", x.ofHouse(house, what), of[house][what]);
            }
        }
        due("ofHouse(4, 9)", x.ofHouse(4, 9), NO_SUCH);
        due("ofHouse(-1, 0)", x.ofHouse(-1, 0), NO_SUCH);
        due("ofHouse(0, 4)", x.ofHouse(0, 4), BAD_VALUE);
        due("ofHouse(0, -1)", x.ofHouse(0, -1), BAD_VALUE);
    }

    private static void promise15Advert() {
        CircuitReels x = new CircuitReels();
        x.film(1, 0, 0);
        due("advert(-1)", x.advert(-1), NO_SUCH);
        due("advert(7)", x.advert(7), NO_SUCH);
        due("advert(LOW)", x.advert(LOW), NO_SUCH);
        for (int shows = 1; shows <= 4; shows++) {
            x.show(0, 0, 100 * shows, 0);
            for (int advert = 0; advert < 7; advert++) {
                int often = advert < 3 * shows % 7 ? 3 * shows / 7 + 1 : 3 * shows / 7;
                due("advert(" + advert + ") of " + shows, x.advert(advert), often);
            }
        }
        x.set(CircuitReels.ADVERTS, 9);
        due("advert(0) of 36", x.advert(0), 6);
        due("advert(1) of 36", x.advert(1), 5);
        x.set(CircuitReels.ADVERTS, 0);
        due("advert(0) without adverts", x.advert(0), 0);
    }

    private static void promise16FirstFree() {
        CircuitReels x = new CircuitReels();
        due("firstFree without films", x.firstFree(0, 0, -1), NO_SUCH);
        x.film(2, 0, 0);
        due("firstFree(0, 4, -1)", x.firstFree(0, 4, -1), NO_SUCH);
        due("firstFree(0, -1, 0)", x.firstFree(0, -1, 0), NO_SUCH);
        due("firstFree(0, 0, -1)", x.firstFree(0, 0, -1), BAD_VALUE);
        due("firstFree(0, 0, 1440)", x.firstFree(0, 0, 1440), BAD_VALUE);
        due("firstFree at home", x.firstFree(0, 0, 7), 7);
        due("firstFree elsewhere", x.firstFree(0, 1, 7), 10);
        due("firstFree at the last minute", x.firstFree(0, 1, 1439), 1439);
        x.show(0, 0, 100, 0);
        due("no other show waits longer", x.firstFree(0, 0, 86), 115);
        due("just ahead of the other one", x.firstFree(0, 0, 85), 85);
        due("elsewhere it is carried there and back", x.firstFree(0, 1, 0), 10);
        due("elsewhere just ahead of the other one", x.firstFree(0, 1, 75), 75);
        due("elsewhere a minute later", x.firstFree(0, 1, 76), 125);
        x.set(CircuitReels.WAIT, 60);
        due("waiting is not free", x.firstFree(0, 0, 86), 115);
        x.show(0, 3, 100, 0);
        due("one that waits already", x.ofShow(1, 6), 25);
        due("behind it", x.firstFree(0, 0, 86), 150);
        x.set(CircuitReels.WAIT, 0);
        due("one that misses its reels anyway", x.firstFree(0, 0, 86), 115);
        x.tear(0, 0, 0);
        due("torn and mended ahead of the others", x.firstFree(0, 0, 0), 0);
        due("torn and not mended in time", x.firstFree(0, 0, 76), 125);
        x.show(0, 0, 1439, 0);
        due("nothing behind the last one", x.firstFree(0, 0, 1425), NONE);
        due("just ahead of the last one", x.firstFree(0, 0, 1424), 1424);
        due("nothing changes", x.count(1), 3);
        for (int show = 3; show < 20; show++) {
            x.show(0, 0, 0, 0);
        }
        due("firstFree of too many", x.firstFree(0, 0, 0), TOO_MANY);
        due("firstFree of too many, bad", x.firstFree(0, 0, 1440), BAD_VALUE);
        due("firstFree of too many, no film", x.firstFree(1, 0, 0), NO_SUCH);
    }

    private static void promise17Slower() {
        CircuitReels x = new CircuitReels();
        due("slower(-1)", x.slower(-1), BAD_VALUE);
        due("slower(100)", x.slower(100), BAD_VALUE);
        due("slower(99) of none", x.slower(99), 1000);
        x.film(2, 0, 0);
        x.show(0, 1, 12, 0);
        due("slower(0)", x.slower(0), 1000);
        due("slower(7)", x.slower(7), 1000);
        due("slower(8)", x.slower(8), 1002);
        due("nothing changes", x.way(0, 1, 99), 10);
        x.way(0, 1, 10);
        x.show(0, 0, 20, 0);
        x.show(0, 0, 31, 0);
        // With slower ways the first show misses both reels, so the others have them at home.
        due("missed by two", x.count(3), 4);
        due("fewer are missed", x.slower(8), 998);
        due("none less yet", x.slower(0), 1000);
        due("missed by two still", x.count(3), 4);
        due("changes", x.count(14), 6);
    }

    private static void promise18Put() {
        CircuitReels x = new CircuitReels();
        due("put(0)", x.put(0), BAD_VALUE);
        due("put of a space", x.put(' '), BAD_VALUE);
        due("put of 127", x.put(127), BAD_VALUE);
        due("put of 32 in the middle", x.put(Checks.packed("a b")), BAD_VALUE);
        due("put of a gap", x.put(0x610061L), BAD_VALUE);
        due("put of a gap below", x.put(0x6100L), BAD_VALUE);
        due("put of a bit far above", x.put(1L << 56 | 'a'), BAD_VALUE);
        due("put of the highest bit", x.put(1L << 63 | 'a'), BAD_VALUE);
        due("put(-1)", x.put(-1), BAD_VALUE);
        due("put of 128 as the eighth", x.put(0x8061616161616161L), BAD_VALUE);
        due("put('!')", x.put(33), 1);
        due("put('~')", x.put(126), 2);
        due("changes", x.count(14), 0);
        x.wipe();
        for (int times = 1; times <= 9; times++) {
            due("put of eight", x.put(Checks.packed("s0@0:0*0")), 8 * times);
        }
        due("put of seven", x.put(Checks.packed("1234567")), 79);
        due("put of two too many", x.put(Checks.packed("ab")), TOO_MANY);
        due("put of a bad one too many", x.put(Checks.packed("a b")), BAD_VALUE);
        due("put of the last one", x.put('x'), 80);
        due("put of one too many", x.put('x'), TOO_MANY);
        due("count(13)", x.count(13), 80);
    }

    private static void promise19Wipe() {
        CircuitReels x = new CircuitReels();
        due("wipe of none", x.wipe(), 0);
        Checks.write(x, "w01=2;w12=3");
        due("wipe()", x.wipe(), 11);
        due("count(13)", x.count(13), 0);
        due("changes", x.count(14), 0);
        due("put('a')", x.put('a'), 1);
    }

    private static void promise20Fault() {
        String[] whole = {"f9@9%9999", "s0@0:0*0", "s9@8:1234*987", "w00=0", "w12=10;w12=10", "t0/0:0", "-0", "-9999;-0;-10",
            "f1@2%3;s4@5:6*7;w89=0;t1/2:3;-4"};
        for (String text : whole) {
            checkFault(text, NONE);
        }
        String[] faulty = {"x", "0", ";", "-", "-x", "-0;", "-0;;", "-00", "-01", "-12345", "-9999x", "-1-", "f", "fa", "f1", "f1%",
            "f1@", "f1@@", "f1@0", "f1@0:", "f1@0%", "f1@0%;", "f10", "f1@00", "s0@0:00", "s0@0:0", "s0@0:0%", "s0@0:0*", "s0@0:0*01",
            "s0@0:12345*0", "s0@0:1;", "s0%", "s0@0%", "w", "w0", "w0x", "w000", "w00:", "w00=", "w00=-", "t0@", "t0/0=", "t0/0:a",
            "-1;x", "-1;f1@0%5;s", "F1@0%5", "-+1"};
        int[] faults = {0, 0, 0, 1, 1, 3, 3, 2, 2, 5, 5, 2, 1, 1, 2, 2,
            3, 3, 4, 4, 5, 5, 2, 4, 6, 6, 6, 7, 8,
            9, 6, 2, 4, 1, 2, 2, 3, 3, 4, 4, 2, 4, 5,
            3, 11, 0, 1};
        for (int index = 0; index < faulty.length; index++) {
            checkFault(faulty[index], faults[index]);
        }
        due("the fault of none", new CircuitReels().fault(), 0);
        StringBuilder longest = new StringBuilder("w00=0");
        while (longest.length() < 80) {
            longest.append(";-0");
        }
        checkFault(longest.toString(), NONE);
        longest.setCharAt(79, ';');
        checkFault(longest.toString(), 79);
        checkFaultsAtTheEnd();
        checkFaultsOverWipedText();
    }

    /** Every way in which an order can end too early, at the end of a full pad. */
    private static void checkFaultsAtTheEnd() {
        for (String order : new String[] {"f1@2%3", "s0@1:2*3", "w01=5", "t1/2:3", "-1"}) {
            for (int length = 0; length < order.length(); length++) {
                StringBuilder text = new StringBuilder();
                while (text.length() + length < 80 - 6) {
                    text.append("-0;");
                }
                String[] ofFourOrMore = {"-10;", "-100;", "-1000;"};
                text.append(ofFourOrMore[80 - length - text.length() - 4]);
                text.append(order, 0, length);
                checkFault(text.toString(), 80);
            }
        }
    }

    /** What was wiped must not be read again behind the end of the text. */
    private static void checkFaultsOverWipedText() {
        for (String order : new String[] {"f1@2%34;-0", "s0@1:25*39", "w01=52;-0", "t1/2:34;-0", "-12;-0"}) {
            for (int length = 0; length < order.length(); length++) {
                CircuitReels x = new CircuitReels();
                CircuitReels fresh = new CircuitReels();
                Checks.write(x, order);
                x.wipe();
                Checks.write(x, order.substring(0, length));
                Checks.write(fresh, order.substring(0, length));
                due("fault over wiped text: " + order + " " + length, x.fault(), fresh.fault());
            }
        }
    }

    private static void checkFault(String text, int fault) {
        CircuitReels x = new CircuitReels();
        due("put of " + text, Checks.write(x, text), text.length());
        due("the fault of " + text, x.fault(), fault);
        due("the length of " + text, x.count(13), text.length());
    }

    private static void promise21CarryOut() {
        CircuitReels x = new CircuitReels();
        due("carryOut of none", x.carryOut(), BAD_TEXT);
        Checks.write(x, "w01=5;");
        due("carryOut with a fault", x.carryOut(), BAD_TEXT);
        due("the pad stays", x.count(13), 6);
        due("nothing is carried out", x.way(0, 1, 20), 10);
        Checks.write(x, "f3@2%45;s0@1:600*70;t0/2:500;t0/2:600;s0@3:601*80");
        due("carryOut()", x.carryOut(), 6);
        due("the pad is empty", x.count(13), 0);
        due("changes", x.count(14), 2);
        int[] film = {3, 2, 45, 2};
        for (int what = 0; what < film.length; what++) {
            due("ofFilm(0, " + what + ")", x.ofFilm(0, what), film[what]);
        }
        int[] show = {0, 1, 600, 70};
        for (int what = 0; what < show.length; what++) {
            due("ofShow(0, " + what + ")", x.ofShow(0, what), show[what]);
        }
        due("the way", x.way(0, 1, 20), 5);
        due("the tear", x.glue(0, 2), 600);
        Checks.write(x, "-1;w22=3;-0");
        due("carryOut up to an error", x.carryOut(), 1);
        due("the pad is empty", x.count(13), 0);
        due("one show is dropped", x.count(1), 1);
        due("undo()", x.undo(), 4);
        due("both shows are there", x.count(1), 2);
        Checks.write(x, "-2");
        due("carryOut of no order", x.carryOut(), 0);
        due("is a change too", x.count(14), 5);
    }

    private static void promise22Undo() {
        CircuitReels x = new CircuitReels();
        x.film(2, 1, 30);
        x.show(0, 1, 50, 10);
        x.tear(0, 1, 20);
        due("undo of tear", x.undo(), 2);
        due("no tear", x.glue(0, 1), NOT_POSSIBLE);
        due("undo of show", x.undo(), 1);
        due("no show", x.count(1), 0);
        due("undo of film", x.undo(), 0);
        due("no film", x.count(0), 0);
        due("undo of none", x.undo(), NOT_POSSIBLE);
        for (int last = 1; last <= 8; last++) {
            x.set(CircuitReels.LAST, last);
            due("changes", x.count(14), Math.min(6, last));
        }
        x.set(CircuitReels.LAST, 8);
        due("undo of no difference", x.undo(), 5);
        for (int left = 4; left >= 0; left--) {
            due("undo()", x.undo(), left);
            due("LAST", x.count(8), left + 3);
        }
        due("undo at the end", x.undo(), NOT_POSSIBLE);
        x.save(0);
        x.way(2, 3, 44);
        x.put('a');
        due("an error is no change", x.set(9, 9), BAD_VALUE);
        due("undo of way", x.undo(), 0);
        due("the pad stays", x.count(13), 1);
        due("the way is as before", x.way(2, 3, 44), 10);
        due("the slot stays", x.restore(0), 0);
        x.undo();
        due("the way behind undo of restore", x.way(2, 3, 1), 44);
    }

    /** Each kind of change, undone, leaves every answer as it was. */
    private static void promise22UndoAll() {
        for (int kind = 0; kind < 9; kind++) {
            CircuitReels x = new CircuitReels();
            x.film(2, 1, 30);
            x.film(3, 2, 60);
            x.show(0, 1, 50, 10);
            x.show(1, 3, 60, 20);
            x.show(0, 1, 66, 30);
            x.tear(1, 0, 20);
            x.save(1);
            x.drop(1);
            x.show(1, 2, 30, 40);
            String before = allAnswers(x);
            int answer = change(x, kind);
            checks.holds("change " + kind + " is one", answer >= 0 || answer == NONE);
            checks.holds("change " + kind + " makes a difference", !before.equals(allAnswers(x)));
            due("undo of change " + kind, x.undo(), 5);
            checks.holds("undo of change " + kind + " undoes all", before.equals(allAnswers(x)));
        }
    }

    private static int change(CircuitReels x, int kind) {
        switch (kind) {
            case 0: return x.set(CircuitReels.LAST, 17);
            case 1: return x.film(5, 0, 12);
            case 2: return x.way(2, 3, 12);
            case 3: return x.show(0, 3, 700, 12);
            case 4: return x.drop(0);
            case 5: return x.tear(0, 1, 12);
            case 6: return x.glue(1, 0);
            case 7: return x.restore(1);
            default:
                Checks.write(x, "s0@2:9*9;f1@1%1");
                return x.carryOut();
        }
    }

    /** All but the pad and the history, the ways by what they cost. */
    private static String allAnswers(CircuitReels x) {
        StringBuilder all = new StringBuilder();
        for (int what = 0; what < 13; what++) {
            all.append(x.count(what)).append(' ').append(x.advert(what)).append(' ');
            for (int index = 0; index < 5; index++) {
                all.append(x.ofShow(index, what)).append(' ').append(x.ofFilm(index, what)).append(' ');
                all.append(x.ofHouse(index, what)).append(' ').append(x.shown(index, what)).append(' ');
                all.append(x.where(index, what, 77)).append(' ').append(x.firstFree(index, what, 0)).append(' ');
            }
        }
        return all.toString();
    }

    private static void promise23Save() {
        CircuitReels x = new CircuitReels();
        due("save(-1)", x.save(-1), BAD_VALUE);
        due("save(2)", x.save(2), BAD_VALUE);
        due("save(0)", x.save(0), 0);
        x.film(1, 0, 0);
        x.show(0, 0, 0, 0);
        due("save(1)", x.save(1), 1);
        due("changes", x.count(14), 2);
        x.show(0, 0, 5, 0);
        due("save(1) over it", x.save(1), 2);
        x.drop(0);
        due("restore(1)", x.restore(1), 2);
        due("restore(0)", x.restore(0), 0);
    }

    private static void promise24Restore() {
        CircuitReels x = new CircuitReels();
        due("restore(-1)", x.restore(-1), BAD_VALUE);
        due("restore(2)", x.restore(2), BAD_VALUE);
        due("restore(1)", x.restore(1), NOT_POSSIBLE);
        due("changes", x.count(14), 0);
        x.film(2, 3, 44);
        x.show(0, 2, 30, 9);
        x.tear(0, 1, 8);
        x.way(1, 2, 3);
        x.set(CircuitReels.PRICE, 50);
        x.save(1);
        x.film(1, 1, 1);
        x.glue(0, 1);
        x.way(1, 2, 4);
        x.set(CircuitReels.PRICE, 51);
        x.drop(0);
        x.put('q');
        due("restore(1)", x.restore(1), 1);
        due("count(0)", x.count(0), 1);
        due("count(12)", x.count(12), 50);
        due("count(13)", x.count(13), 1);
        due("count(14)", x.count(14), 6);
        due("ofShow(0, 2)", x.ofShow(0, 2), 30);
        due("glue(0, 1)", x.glue(0, 1), 8);
        due("way(1, 2, 9)", x.way(1, 2, 9), 3);
        due("the slot keeps it", x.restore(1), 1);
        due("way(1, 2, 9) again", x.way(1, 2, 9), 3);
        due("restore(0)", x.restore(0), NOT_POSSIBLE);
        x.undo();
        x.undo();
        x.undo();
        due("undo of glue", x.undo(), 2);
        due("undo of restore", x.undo(), 1);
        due("count(0)", x.count(0), 2);
        due("count(1)", x.count(1), 0);
    }
}
