/** The chapter "Shows" and promises 9 to 15: the minute in which an answer turns, rounding, and going round. */
public final class ShowsTest {
    private static final int NO_SUCH = -1, NONE = -6;
    private static final int LAST = CircuitReels.LAST, WAIT = CircuitReels.WAIT, MEND = CircuitReels.MEND;
    private static final int ADVERTS = CircuitReels.ADVERTS, PRICE = CircuitReels.PRICE;
    private static final Checks checks = new Checks();

    public static void main(String[] args) {
        orderOfMinutes();
        orderOfLikeMinutes();
        orderOfLikeMinutesBehindADrop();
        advertsLastNoTime();
        thereWhenFree();
        thereBesidesTheWay();
        thereFromMinuteZero();
        carriedAsSoonAsFree();
        dueWhenTheReelAheadHasEnded();
        missedTakesNoTime();
        missedStaysWhereItIs();
        waitsOfSeveralReels();
        waitsAreCountedForEachReel();
        tearCountsFromItsMinuteOn();
        tearCountsByTheBeginningOfTheShow();
        tearCountsForTheFirstInOrder();
        tearCountsForOneThatShowsTheReel();
        tearCountsOnce();
        promise9Numbers();
        promise9RentalsAreRoundedEach();
        promise10LastEnd();
        promise10MissedSets();
        promise10GivenBackIsRoundedDown();
        promise10AllIsGivenBack();
        promise10RentalIsRoundedDown();
        promise10FirstAdvertGoesRound();
        promise11EachReel();
        promise12OnItsWay();
        promise12WayOfOneMinute();
        promise12WhileShownOrMended();
        promise12Stays();
        promise12LeastAndMost();
        promise12EachFilm();
        promise12EachReel();
        promise13GreatestEnd();
        promise13CarriedEachTime();
        promise13MissedEachTime();
        promise13EachNumber();
        promise14EachHouse();
        promise15AdvertsGoRound();
        promise15AdvertsOfTwentyShows();
        checks.end();
    }

    private static void due(String call, long got, long want) {
        checks.due(call, got, want);
    }

    /** A film of some reels at home in house 0, with first values. */
    private static CircuitReels circuitOf(int reels) {
        CircuitReels x = new CircuitReels();
        x.film(reels, 0, 100);
        return x;
    }

    /** "The shows are gone through in the order of the minutes at which they begin." */
    private static void orderOfMinutes() {
        CircuitReels x = circuitOf(1);
        int[] minutes = {1439, 0, 1438, 1, 700};
        int[] places = {4, 0, 3, 1, 2};
        for (int minute : minutes) {
            x.show(0, 0, minute, 0);
        }
        for (int show = 0; show < 5; show++) {
            due("place of show " + show, x.ofShow(show, 4), places[show]);
        }
        // It came last, but begins first, so it has the reel first.
        CircuitReels y = circuitOf(1);
        y.show(0, 1, 101, 0);
        y.show(0, 2, 100, 0);
        due("the later one misses it", y.shown(0, 0), NONE);
        due("the earlier one shows it", y.shown(1, 0), 100);
    }

    /** "Of like ones in that of their numbers." */
    private static void orderOfLikeMinutes() {
        CircuitReels x = circuitOf(1);
        for (int show = 0; show < 20; show++) {
            x.show(0, show % 4, 500, 0);
        }
        for (int show = 0; show < 20; show++) {
            due("place of show " + show, x.ofShow(show, 4), show);
            due("the first one has the reel", x.shown(show, 0), show == 0 ? 500 : NONE);
        }
    }

    private static void orderOfLikeMinutesBehindADrop() {
        CircuitReels x = circuitOf(1);
        x.show(0, 1, 500, 1);
        x.show(0, 2, 500, 2);
        x.show(0, 3, 499, 3);
        x.drop(0);
        due("the one behind it is the first of that minute", x.ofShow(0, 4), 1);
        x.show(0, 1, 500, 1);
        due("the new one is the last of that minute", x.ofShow(2, 4), 2);
        x.drop(1);
        due("the reel goes to the lower number", x.shown(0, 0), 500);
        due("and not to the higher one", x.shown(1, 0), NONE);
    }

    /** "A show begins with its adverts, which last no time." */
    private static void advertsLastNoTime() {
        CircuitReels x = circuitOf(1);
        x.show(0, 0, 100, 0);
        x.set(ADVERTS, 9);
        due("shown behind nine adverts", x.shown(0, 0), 100);
        x.set(ADVERTS, 0);
        due("shown without adverts", x.shown(0, 0), 100);
    }

    /** "If it is there by then, it is shown; if it is there at most WAIT minutes later, the show waits for it." */
    private static void thereWhenFree() {
        int[] minutes = {100, 109, 110, 111, 114, 115, 116};
        int[] shown = {NONE, NONE, 115, 115, 115, 115, 116};
        int[] waits = {0, 0, 5, 4, 1, 0, 0};
        for (int index = 0; index < minutes.length; index++) {
            CircuitReels x = circuitOf(1);
            x.show(0, 0, 100, 0);
            x.show(0, 0, minutes[index], 0);
            due("shown at home, of minute " + minutes[index], x.shown(1, 0), shown[index]);
            due("waiting at home, of minute " + minutes[index], x.ofShow(1, 6), waits[index]);
        }
    }

    /** "And besides the way, if it was in another house." */
    private static void thereBesidesTheWay() {
        int[] minutes = {119, 120, 124, 125, 126};
        int[] shown = {NONE, 125, 125, 125, 126};
        int[] waits = {0, 5, 1, 0, 0};
        for (int index = 0; index < minutes.length; index++) {
            CircuitReels x = circuitOf(1);
            x.show(0, 0, 100, 0);
            x.show(0, 3, minutes[index], 0);
            due("shown elsewhere, of minute " + minutes[index], x.shown(1, 0), shown[index]);
            due("waiting elsewhere, of minute " + minutes[index], x.ofShow(1, 6), waits[index]);
        }
    }

    /** "Where all its reels are at first, free from the minute 0 on." */
    private static void thereFromMinuteZero() {
        int[] minutes = {0, 4, 5, 9, 10, 11};
        int[] shown = {NONE, NONE, 10, 10, 10, 11};
        for (int index = 0; index < minutes.length; index++) {
            CircuitReels x = circuitOf(1);
            x.show(0, 2, minutes[index], 0);
            due("shown elsewhere first, of minute " + minutes[index], x.shown(0, 0), shown[index]);
        }
    }

    /** "It is carried as soon as it is free, if it is to be shown elsewhere next." */
    private static void carriedAsSoonAsFree() {
        CircuitReels x = circuitOf(1);
        x.show(0, 1, 1000, 0);
        due("on its way at once", x.where(0, 0, 0), NONE);
        due("there long ahead of the show", x.where(0, 0, 10), 1);
        x.show(0, 0, 500, 0);
        due("not before the show at home", x.where(0, 0, 514), 0);
        due("but at its end", x.where(0, 0, 515), NONE);
        due("and there", x.where(0, 0, 525), 1);
    }

    /** "It is due when the reel ahead of it in this show has ended (the first one, when the show begins)." */
    private static void dueWhenTheReelAheadHasEnded() {
        CircuitReels x = circuitOf(2);
        x.show(0, 0, 100, 0);
        // Reel 0 is there at 125, reel 1 at 140: 5 late for 120, and just by then for 125 + 15.
        x.show(0, 1, 120, 0);
        due("reel 0 is waited for", x.shown(1, 0), 125);
        due("reel 1 is due when reel 0 has ended", x.shown(1, 1), 140);
        due("the waiting", x.ofShow(1, 6), 5);
        due("the end", x.ofShow(1, 5), 155);
    }

    /** "A reel that is missed takes no time." */
    private static void missedTakesNoTime() {
        int[] torn = {0, 1, 2};
        int[][] shown = {{NONE, 145, 160}, {145, NONE, 160}, {145, 160, NONE}};
        for (int reel : torn) {
            CircuitReels x = circuitOf(3);
            x.set(MEND, 60);
            x.show(0, 0, 100, 0);
            x.show(0, 0, 145, 0);
            x.tear(0, reel, 100);
            for (int other = 0; other < 3; other++) {
                due("reel " + other + " with reel " + reel + " torn", x.shown(1, other), shown[reel][other]);
            }
            due("the last reel ends", x.ofShow(1, 5), 175);
            due("the missed one", x.ofShow(1, 7), 1 << reel);
            due("no waiting for it", x.ofShow(1, 6), 0);
        }
    }

    /** "Otherwise it is missed in this show, and stays where it is." */
    private static void missedStaysWhereItIs() {
        CircuitReels x = circuitOf(1);
        x.show(0, 0, 100, 0);
        x.show(0, 1, 119, 0);
        x.show(0, 0, 120, 0);
        due("missed elsewhere", x.shown(1, 0), NONE);
        due("shown at home again", x.shown(2, 0), 120);
        due("it was there all the time", x.where(0, 0, 117), 0);
        due("never carried", x.ofFilm(0, 4), 0);
    }

    /** "The minutes for which it waits": WAIT holds for each reel, and the show waits for all of them together. */
    private static void waitsOfSeveralReels() {
        int[] mend = {0, 1, 5, 6};
        int[] shown = {140, 141, 145, NONE};
        int[] waits = {5, 6, 10, 5};
        for (int index = 0; index < mend.length; index++) {
            CircuitReels x = circuitOf(2);
            x.set(MEND, mend[index]);
            x.show(0, 0, 100, 0);
            x.show(0, 1, 120, 0);
            x.tear(0, 1, 0);
            due("reel 1, mended in " + mend[index], x.shown(1, 1), shown[index]);
            due("the waiting, mended in " + mend[index], x.ofShow(1, 6), waits[index]);
        }
    }

    private static void waitsAreCountedForEachReel() {
        CircuitReels x = circuitOf(6);
        x.set(LAST, 1);
        x.set(WAIT, 60);
        x.set(MEND, 60);
        x.show(0, 0, 0, 0);
        x.show(0, 0, 1, 0);
        for (int reel = 0; reel < 6; reel++) {
            x.tear(0, reel, 0);
        }
        // Reel k is free at k + 61. Only reel 0 is waited for, and the others are due as they become free.
        due("the waiting", x.ofShow(1, 6), 60);
        due("the end", x.ofShow(1, 5), 67);
        due("all waiting", x.count(2), 60);
        due("waiting in the house", x.ofHouse(0, 3), 60);
    }

    /** "That begin at or behind the minute that is told with it." */
    private static void tearCountsFromItsMinuteOn() {
        int[] told = {0, 99, 100, 101, 1439};
        int[] shown = {125, 125, 125, 115, 115};
        for (int index = 0; index < told.length; index++) {
            CircuitReels x = circuitOf(1);
            x.set(WAIT, 60);
            x.show(0, 0, 100, 0);
            x.show(0, 0, 100, 0);
            x.tear(0, 0, told[index]);
            due("the next show, with a tear at " + told[index], x.shown(1, 0), shown[index]);
        }
    }

    /** It is the show that begins behind the minute; the reel's own minute says nothing. */
    private static void tearCountsByTheBeginningOfTheShow() {
        CircuitReels x = circuitOf(2);
        x.set(WAIT, 60);
        x.show(0, 0, 100, 0);
        x.show(0, 0, 110, 0);
        x.tear(0, 1, 101);
        due("reel 1 is shown at 115, in a show of 100", x.shown(0, 1), 115);
        due("so it isn't torn in it", x.shown(1, 1), 130);
        x.show(0, 0, 200, 0);
        x.show(0, 0, 200, 0);
        due("but in the show of 110", x.shown(2, 1), 215);
        x.tear(0, 1, 111);
        due("or in that of 200", x.shown(3, 1), 240);
    }

    /** "It counts for the first show, in the order told." */
    private static void tearCountsForTheFirstInOrder() {
        CircuitReels x = circuitOf(1);
        x.set(WAIT, 60);
        x.tear(0, 0, 50);
        x.show(0, 0, 300, 0);
        x.show(0, 0, 200, 0);
        x.show(0, 0, 200, 0);
        x.show(0, 0, 300, 0);
        due("the first one in order", x.shown(1, 0), 200);
        due("the next one waits", x.shown(2, 0), 225);
        due("not the first one in number", x.shown(3, 0), 315);
        x.drop(1);
        x.drop(1);
        due("without them it counts for it", x.shown(1, 0), 325);
    }

    /** "In which the reel is shown." */
    private static void tearCountsForOneThatShowsTheReel() {
        CircuitReels x = circuitOf(1);
        x.show(0, 0, 100, 0);
        x.show(0, 1, 105, 0);
        x.show(0, 0, 200, 0);
        x.show(0, 0, 225, 0);
        x.tear(0, 0, 101);
        due("missed in the first one behind it", x.shown(1, 0), NONE);
        due("shown in the next one", x.shown(2, 0), 200);
        due("and torn there", x.shown(3, 0), 225);
        x.set(WAIT, 0);
        due("mended just by then", x.shown(3, 0), 225);
        x.set(MEND, 11);
        due("or a minute too late", x.shown(3, 0), NONE);
        due("a show that misses it mends nothing", x.where(0, 0, 226), 0);
    }

    /** "It is mended by that, and torn no more." */
    private static void tearCountsOnce() {
        CircuitReels x = circuitOf(1);
        x.set(WAIT, 60);
        for (int show = 0; show < 4; show++) {
            x.show(0, 0, 100, 0);
        }
        x.tear(0, 0, 100);
        int[] shown = {100, 125, 140, 155};
        for (int show = 0; show < 4; show++) {
            due("show " + show + " with one tear", x.shown(show, 0), shown[show]);
        }
    }

    private static void promise9Numbers() {
        CircuitReels x = new CircuitReels();
        for (int film = 0; film < 5; film++) {
            x.film(film + 1, 3, 20 * film);
        }
        for (int show = 0; show < 20; show++) {
            x.show(show % 5, show % 2, 60 * show, 10);
        }
        for (int film = 0; film < 5; film++) {
            due("reels", x.ofFilm(film, 0), film + 1);
            due("home", x.ofFilm(film, 1), 3);
            due("rental", x.ofFilm(film, 2), 20 * film);
            due("shows", x.ofFilm(film, 3), 4);
        }
        due("the last film is carried", x.ofFilm(4, 4), 20);
        due("the first film is missed at minute 0", x.ofShow(0, 7), 1);
        due("and carried by the others", x.ofFilm(0, 4), 3);
        due("without a rental", x.ofFilm(0, 5), 0);
        due("the last film's rentals", x.ofFilm(4, 5), 4 * 40);
    }

    /** "The rental of all its shows together", where each one's rental is rounded down. */
    private static void promise9RentalsAreRoundedEach() {
        CircuitReels x = new CircuitReels();
        x.film(1, 0, 30);
        x.show(0, 0, 0, 1);
        x.show(0, 0, 100, 1);
        due("1.5 each", x.ofShow(0, 10), 1);
        due("together", x.ofFilm(0, 5), 2);
        due("of the house", x.ofHouse(0, 2), 2);
        due("of all", x.count(6), 2);
    }

    /** "The minute at which its last reel ends (its own minute if all are missed)." */
    private static void promise10LastEnd() {
        CircuitReels x = circuitOf(1);
        x.show(0, 3, 0, 0);
        x.show(0, 3, 1439, 0);
        due("missed at minute 0", x.ofShow(0, 5), 0);
        due("shown at the last minute", x.ofShow(1, 5), 1454);
        x.show(0, 0, 1439, 0);
        due("missed at the last minute", x.ofShow(2, 5), 1439);
        x.set(WAIT, 60);
        due("all are shown", x.ofShow(0, 5), 25);
        due("the last one waits", x.ofShow(2, 5), 1479);
    }

    /** "The missed reels, as a set": a bit for each reel, the reel 0 the lowest one. */
    private static void promise10MissedSets() {
        for (int set = 0; set < 64; set++) {
            CircuitReels x = circuitOf(6);
            x.set(WAIT, 0);
            x.set(MEND, 60);
            x.set(LAST, 1);
            x.show(0, 0, 100, 0);
            x.show(0, 0, 110, 0);
            for (int reel = 0; reel < 6; reel++) {
                if ((set >> reel & 1) == 1) {
                    x.tear(0, reel, 100);
                }
            }
            due("the set " + set, x.ofShow(1, 7), set);
            due("missed reels of the set " + set, x.count(3), Integer.bitCount(set));
        }
    }

    /** "Takings * missed reels / reels of the film are given back"; "Divisions are rounded down." */
    private static void promise10GivenBackIsRoundedDown() {
        for (int missed = 0; missed <= 6; missed++) {
            CircuitReels x = circuitOf(6);
            x.set(WAIT, 0);
            x.set(MEND, 60);
            x.set(LAST, 1);
            x.show(0, 0, 100, 0);
            x.show(0, 0, 110, 1);
            for (int reel = 0; reel < missed; reel++) {
                x.tear(0, reel, 100);
            }
            int[] givenBack = {0, 0, 1, 2, 3, 4, 5};
            due("takings", x.ofShow(1, 8), 5);
            due("given back for " + missed + " of 6", x.ofShow(1, 9), givenBack[missed]);
            due("what is left", x.count(5), 5 - givenBack[missed]);
            due("the rental of 100 hundredths", x.ofShow(1, 10), 5 - givenBack[missed]);
        }
    }

    private static void promise10AllIsGivenBack() {
        for (int reels = 1; reels <= 6; reels++) {
            CircuitReels x = circuitOf(reels);
            x.show(0, 1, 0, 999);
            x.set(PRICE, 99);
            due("takings", x.ofShow(0, 8), 98901);
            due("given back for all of " + reels, x.ofShow(0, 9), 98901);
            due("rental of what is left", x.ofShow(0, 10), 0);
            x.set(WAIT, 60);
            due("given back for none of " + reels, x.ofShow(0, 9), 0);
            due("rental of all", x.ofShow(0, 10), 98901);
        }
    }

    /** "What is left, times the rental hundredths, divided by 100." */
    private static void promise10RentalIsRoundedDown() {
        int[] hundredths = {0, 1, 19, 20, 39, 40, 99, 100};
        int[] rentals = {0, 0, 0, 1, 1, 2, 4, 5};
        for (int index = 0; index < hundredths.length; index++) {
            CircuitReels x = new CircuitReels();
            x.film(1, 0, hundredths[index]);
            x.show(0, 0, 0, 1);
            due("rental of " + hundredths[index] + " hundredths of 5", x.ofShow(0, 10), rentals[index]);
            x.set(PRICE, 0);
            due("rental of nothing", x.ofShow(0, 10), 0);
            x.set(PRICE, 99);
            due("rental of 99", x.ofShow(0, 10), hundredths[index] == 100 ? 99 : 99 * hundredths[index] / 100);
        }
    }

    /** "There are 7, 0 to 6; each show has the next ADVERTS ones"; "NONE without adverts". */
    private static void promise10FirstAdvertGoesRound() {
        int[][] first = {
            {NONE, NONE, NONE, NONE, NONE, NONE, NONE, NONE, NONE},
            {0, 1, 2, 3, 4, 5, 6, 0, 1},
            {0, 2, 4, 6, 1, 3, 5, 0, 2},
            {0, 3, 6, 2, 5, 1, 4, 0, 3},
            {0, 4, 1, 5, 2, 6, 3, 0, 4},
            {0, 5, 3, 1, 6, 4, 2, 0, 5},
            {0, 6, 5, 4, 3, 2, 1, 0, 6},
            {0, 0, 0, 0, 0, 0, 0, 0, 0},
            {0, 1, 2, 3, 4, 5, 6, 0, 1},
            {0, 2, 4, 6, 1, 3, 5, 0, 2}};
        CircuitReels x = circuitOf(1);
        for (int show = 0; show < 9; show++) {
            x.show(0, 0, 900 - show, 0);
        }
        for (int adverts = 0; adverts <= 9; adverts++) {
            x.set(ADVERTS, adverts);
            for (int show = 0; show < 9; show++) {
                due("first of " + adverts + " of show " + show, x.ofShow(show, 11), first[adverts][8 - show]);
            }
        }
    }

    /** "Returns the minute at which a reel is shown in a show", "NONE if it is missed". */
    private static void promise11EachReel() {
        CircuitReels x = new CircuitReels();
        x.film(1, 0, 0);
        x.film(6, 1, 0);
        x.show(1, 1, 0, 0);
        x.show(0, 1, 10, 0);
        x.show(0, 0, 11, 0);
        for (int reel = 0; reel < 6; reel++) {
            due("shown(0, " + reel + ")", x.shown(0, reel), 15 * reel);
        }
        due("shown(1, 0)", x.shown(1, 0), 10);
        due("no reel 1 in it", x.shown(1, 1), NO_SUCH);
        due("missed", x.shown(2, 0), NONE);
        due("no reel 1 in it, rather than missed", x.shown(2, 1), NO_SUCH);
    }

    /** "NONE if it is on its way (from the minute at which it is free, until it is there)." */
    private static void promise12OnItsWay() {
        CircuitReels x = circuitOf(1);
        x.show(0, 0, 100, 0);
        x.show(0, 1, 200, 0);
        int[] minutes = {0, 99, 100, 114, 115, 116, 124, 125, 126, 199, 200, 215, 216, 1439, 1440, 9999};
        int[] houses = {0, 0, 0, 0, NONE, NONE, NONE, 1, 1, 1, 1, 1, 1, 1, 1, 1};
        for (int index = 0; index < minutes.length; index++) {
            due("where(0, 0, " + minutes[index] + ")", x.where(0, 0, minutes[index]), houses[index]);
        }
    }

    private static void promise12WayOfOneMinute() {
        CircuitReels x = circuitOf(1);
        x.way(0, 1, 1);
        x.show(0, 1, 700, 0);
        x.show(0, 0, 716, 0);
        due("on its way at once", x.where(0, 0, 0), NONE);
        due("and there", x.where(0, 0, 1), 1);
        due("while it is shown", x.where(0, 0, 714), 1);
        due("on its way back", x.where(0, 0, 715), NONE);
        due("and there", x.where(0, 0, 716), 0);
    }

    /** "The house (also while it is shown or mended)." */
    private static void promise12WhileShownOrMended() {
        CircuitReels x = circuitOf(1);
        x.show(0, 0, 100, 0);
        x.show(0, 1, 200, 0);
        x.tear(0, 0, 100);
        int[] minutes = {100, 114, 115, 124, 125, 134, 135};
        int[] houses = {0, 0, 0, 0, NONE, NONE, 1};
        for (int index = 0; index < minutes.length; index++) {
            due("torn, where(0, 0, " + minutes[index] + ")", x.where(0, 0, minutes[index]), houses[index]);
        }
        due("while a show waits for it, it is on its way", x.tear(0, 0, 190), 100);
        x.show(0, 2, 230, 0);
        due("waited for", x.shown(2, 0), 235);
        due("on its way while it is waited for", x.where(0, 0, 234), NONE);
        due("there", x.where(0, 0, 235), 2);
    }

    /** "A reel that is not shown again stays." */
    private static void promise12Stays() {
        CircuitReels x = circuitOf(1);
        x.show(0, 1, 100, 0);
        due("behind its last show", x.where(0, 0, 115), 1);
        due("and ever after", x.where(0, 0, 9999), 1);
        x.show(0, 1, 300, 0);
        due("shown in the same house next", x.where(0, 0, 115), 1);
        x.show(0, 2, 301, 0);
        due("a show that misses it doesn't call it", x.where(0, 0, 315), 1);
        due("nor ahead of that", x.where(0, 0, 200), 1);
    }

    private static void promise12LeastAndMost() {
        CircuitReels x = circuitOf(1);
        due("at minute 0, never shown", x.where(0, 0, 0), 0);
        due("at minute 9999, never shown", x.where(0, 0, 9999), 0);
        x.show(0, 3, 1439, 0);
        due("at minute 0, to be shown elsewhere", x.where(0, 0, 0), NONE);
        due("at minute 9999, shown elsewhere", x.where(0, 0, 9999), 3);
    }

    /** Shows of other films have reels of their own. */
    private static void promise12EachFilm() {
        CircuitReels x = new CircuitReels();
        for (int film = 0; film < 5; film++) {
            x.film(1, film % 4, 0);
        }
        for (int show = 0; show < 20; show++) {
            x.show(show / 4, show % 4, 70 * show + 30, 0);
        }
        for (int film = 0; film < 5; film++) {
            for (int house = 0; house < 4; house++) {
                int free = 280 * film + 70 * house + 45;
                due("film " + film + " is shown", x.where(film, 0, free - 1), house);
                due("film " + film + " is free", x.where(film, 0, free), house == 3 ? 3 : NONE);
                due("film " + film + " is in the next house", x.where(film, 0, free + 10), Math.min(3, house + 1));
            }
            due("film " + film + " at the beginning", x.where(film, 0, 0), film % 4 == 0 ? 0 : NONE);
            due("film " + film + " at the end", x.where(film, 0, 9999), 3);
        }
    }

    private static void promise12EachReel() {
        CircuitReels x = circuitOf(6);
        x.show(0, 0, 0, 0);
        x.show(0, 1, 200, 0);
        for (int reel = 0; reel < 6; reel++) {
            int free = 15 * reel + 15;
            due("reel " + reel + " is shown", x.where(0, reel, free - 1), 0);
            due("reel " + reel + " is on its way", x.where(0, reel, free), NONE);
            due("reel " + reel + " is on its way still", x.where(0, reel, free + 9), NONE);
            due("reel " + reel + " is there", x.where(0, reel, free + 10), 1);
        }
    }

    /** "The greatest minute at which a show ends (0 without shows)." */
    private static void promise13GreatestEnd() {
        CircuitReels x = circuitOf(6);
        due("without shows", x.count(7), 0);
        x.show(0, 1, 0, 0);
        due("a show at minute 0 that misses all", x.count(7), 0);
        x.show(0, 0, 1000, 0);
        due("a show at 1000 that shows all", x.count(7), 1090);
        x.show(0, 0, 1091, 0);
        due("the last one in order", x.count(7), 1181);
        x.show(0, 3, 1100, 0);
        due("not the last one in order", x.count(7), 1181);
        x.drop(2);
        x.drop(2);
        x.drop(1);
        due("the first one again", x.count(7), 0);
    }

    /** "How often reels are carried": each reel of each show that is elsewhere, and none that is missed. */
    private static void promise13CarriedEachTime() {
        CircuitReels x = new CircuitReels();
        x.film(6, 0, 0);
        x.film(1, 1, 0);
        due("without shows", x.count(4), 0);
        x.show(0, 0, 0, 0);
        due("at home", x.count(4), 0);
        x.show(0, 1, 200, 0);
        due("elsewhere", x.count(4), 6);
        x.show(0, 1, 400, 0);
        due("there again", x.count(4), 6);
        x.show(0, 0, 600, 0);
        due("back", x.count(4), 12);
        x.show(0, 3, 600, 0);
        due("one that misses all", x.count(4), 12);
        x.show(1, 3, 600, 0);
        due("another film", x.count(4), 13);
        due("of the first film", x.ofFilm(0, 4), 12);
        due("of the other film", x.ofFilm(1, 4), 1);
    }

    /** "Missed reels, each time." */
    private static void promise13MissedEachTime() {
        CircuitReels x = circuitOf(6);
        for (int show = 0; show < 20; show++) {
            x.show(0, 1, 0, 1);
            due("missed by " + show + " and one more", x.count(3), 6 * show + 6);
        }
        due("what is left", x.count(5), 0);
        due("what is given back", x.ofShow(19, 9), 5);
        due("rentals", x.count(6), 0);
        due("waiting", x.count(2), 0);
    }

    /** Each number of count() and no other is that number: they all differ. */
    private static void promise13EachNumber() {
        CircuitReels x = new CircuitReels();
        x.set(LAST, 11);
        x.set(WAIT, 50);
        x.set(MEND, 37);
        x.set(ADVERTS, 8);
        x.set(PRICE, 23);
        x.film(1, 0, 50);
        x.film(2, 1, 100);
        x.show(0, 1, 3, 30);
        x.show(1, 1, 100, 40);
        x.show(1, 2, 110, 41);
        x.show(1, 3, 70, 1);
        Checks.write(x, "w01=2;w1");
        // 0: there at 10, waits 7, ends 21. 3: 70 to 81, 81 to 92. 1: there at 91 and 102, by 100 and 111.
        // 2: there at 121 and 132, waits 11 for 110, then 132 is just by then; ends 143.
        // Takings 690, 920, 943 and 23; rentals 345 and all of the others.
        int[] all = {2, 4, 18, 0, 7, 2576, 2231, 143, 11, 50, 37, 8, 23, 8, 6};
        for (int what = 0; what < 15; what++) {
            due("count(" + what + ")", x.count(what), all[what]);
        }
        x.set(WAIT, 10);
        due("both reels are missed", x.count(3), 2);
    }

    private static void promise14EachHouse() {
        CircuitReels x = new CircuitReels();
        int[] none = {0, 0, 0, 0};
        checkHouse(x, 0, none);
        x.film(2, 0, 40);
        x.show(0, 3, 9, 999);
        checkHouse(x, 2, none);
        checkHouse(x, 3, new int[] {1, 4995, 1998, 1});
        x.set(WAIT, 0);
        // Reel 0 is missed, and so is reel 1, which is due at 9, too.
        checkHouse(x, 3, new int[] {1, 0, 0, 0});
        x.drop(0);
        checkHouse(x, 3, none);
    }

    private static void checkHouse(CircuitReels x, int house, int[] want) {
        for (int what = 0; what < 4; what++) {
            due("ofHouse(" + house + ", " + what + ")", x.ofHouse(house, what), want[what]);
        }
    }

    /** "The adverts go round": behind the last one comes the first one, also within a show. */
    private static void promise15AdvertsGoRound() {
        CircuitReels x = circuitOf(1);
        int[][] often = {{1, 1, 1, 0, 0, 0, 0}, {1, 1, 1, 1, 1, 1, 0}, {2, 2, 1, 1, 1, 1, 1}};
        for (int show = 0; show < 3; show++) {
            x.show(0, 0, 0, 0);
            for (int advert = 0; advert < 7; advert++) {
                due("advert " + advert + " of shows " + (show + 1), x.advert(advert), often[show][advert]);
            }
        }
        x.set(ADVERTS, 0);
        for (int advert = 0; advert < 7; advert++) {
            due("advert " + advert + " without adverts", x.advert(advert), 0);
        }
    }

    private static void promise15AdvertsOfTwentyShows() {
        CircuitReels x = Circuits.full();
        int[] adverts = {0, 1, 6, 7, 8, 9};
        int[] rounds = {0, 2, 17, 20, 22, 25};
        int[] more = {0, 6, 1, 0, 6, 5};
        for (int index = 0; index < adverts.length; index++) {
            x.set(ADVERTS, adverts[index]);
            for (int advert = 0; advert < 7; advert++) {
                due("advert " + advert + " of 20 times " + adverts[index], x.advert(advert),
                    rounds[index] + (advert < more[index] ? 1 : 0));
            }
        }
    }
}
