import java.util.function.ToIntFunction;

/** Promises 16 and 17: the first and the last minute that will do, what the other shows bear, ways of any length. */
public final class WhatIfTest {
    private static final int TOO_MANY = -4, NONE = -6;
    private static final int LAST = CircuitReels.LAST, WAIT = CircuitReels.WAIT, MEND = CircuitReels.MEND;
    private static final Checks checks = new Checks();

    public static void main(String[] args) {
        promise16FromOneOn();
        promise16NeitherWaits();
        promise16EachReelIsThere();
        promise16BehindShowsOfTheSameMinute();
        promise16BehindOneThatLeavesItsReels();
        promise16AheadOfAnother();
        promise16UpToTheLastMinute();
        promise16NoneIsLeft();
        promise16NoneWaitsLonger();
        promise16WaitingInPlaceOfMissing();
        promise16NoneMissesMore();
        promise16AsManyButOthers();
        promise16OtherFilms();
        promise16TornReels();
        promise16NineteenShows();
        promise17NoShows();
        promise17NoMinutesMore();
        promise17OneMinuteMore();
        promise17WithinAHouse();
        promise17EachWay();
        promise17OneWayAfterAnother();
        promise17LongerThan99();
        promise17MostOfAll();
        promise17Fewer();
        nothingChanges();
        checks.end();
    }

    private static void due(String call, long got, long want) {
        checks.due(call, got, want);
    }

    private static CircuitReels circuitOf(int reels) {
        CircuitReels x = new CircuitReels();
        x.film(reels, 0, 100);
        return x;
    }

    /** "The first minute, from one on": that one, too. "from: 0 to 1439." */
    private static void promise16FromOneOn() {
        CircuitReels x = circuitOf(6);
        for (int from : new int[] {0, 1, 700, 1438, 1439}) {
            due("at home from " + from, x.firstFree(0, 0, from), from);
            due("elsewhere from " + from, x.firstFree(0, 3, from), Math.max(10, from));
        }
    }

    /** "So that it neither waits nor misses a reel", however long WAIT is. */
    private static void promise16NeitherWaits() {
        for (int wait : new int[] {0, 9, 10, 60}) {
            CircuitReels x = circuitOf(1);
            x.set(WAIT, wait);
            due("elsewhere from 0, WAIT " + wait, x.firstFree(0, 1, 0), 10);
            due("elsewhere from 9, WAIT " + wait, x.firstFree(0, 1, 9), 10);
            due("elsewhere from 10, WAIT " + wait, x.firstFree(0, 1, 10), 10);
            due("elsewhere from 11, WAIT " + wait, x.firstFree(0, 1, 11), 11);
        }
    }

    private static void promise16EachReelIsThere() {
        for (int reel = 0; reel < 6; reel++) {
            CircuitReels x = circuitOf(6);
            x.show(0, 0, 100, 0);
            due("at home behind a show", x.firstFree(0, 0, 100), 115);
            due("elsewhere behind a show", x.firstFree(0, 2, 100), 125);
            x.tear(0, reel, 100);
            due("at home behind a show that tears " + reel, x.firstFree(0, 0, 100), 125);
            due("elsewhere behind a show that tears " + reel, x.firstFree(0, 2, 100), 135);
            x.set(MEND, 0);
            due("mended at once", x.firstFree(0, 2, 100), 125);
        }
    }

    /** The show has the next number, so it is the last one of its minute. */
    private static void promise16BehindShowsOfTheSameMinute() {
        CircuitReels x = circuitOf(1);
        x.set(LAST, 1);
        x.show(0, 0, 100, 0);
        due("a minute ahead of it", x.firstFree(0, 0, 99), 99);
        due("not in its minute", x.firstFree(0, 0, 100), 101);
        x.show(0, 1, 300, 0);
        x.set(WAIT, 0);
        // In house 0 at 300 the reel would be gone to house 1, though it is there until 101.
        due("there and back", x.firstFree(0, 0, 290), 311);
    }

    /** Behind a show of its minute, which has only reel 2, it may have that reel when it is due; ahead of it it may not. */
    private static void promise16BehindOneThatLeavesItsReels() {
        CircuitReels x = circuitOf(3);
        x.set(MEND, 60);
        x.tear(0, 0, 0);
        x.tear(0, 1, 0);
        x.show(0, 0, 0, 0);
        x.show(0, 1, 60, 0);
        x.show(0, 1, 76, 0);
        // Reels 0 and 1 are free at home at 75 and 90, too late for the shows in house 1; reel 2 is there until 91.
        due("missed in house 1", x.ofShow(2, 7), 3);
        due("at 75 reel 2 would be missed by it, too", x.firstFree(0, 0, 0), 76);
    }

    /** "No other show waits longer." */
    private static void promise16AheadOfAnother() {
        for (int wait : new int[] {0, 1, 60}) {
            CircuitReels x = circuitOf(1);
            x.set(WAIT, wait);
            x.show(0, 0, 100, 0);
            due("just ahead, WAIT " + wait, x.firstFree(0, 0, 85), 85);
            due("a minute later, WAIT " + wait, x.firstFree(0, 0, 86), 115);
            due("elsewhere just ahead, WAIT " + wait, x.firstFree(0, 1, 75), 75);
            due("elsewhere a minute later, WAIT " + wait, x.firstFree(0, 1, 76), 125);
        }
    }

    /** "Returns the minute, up to 1439." */
    private static void promise16UpToTheLastMinute() {
        CircuitReels x = circuitOf(1);
        x.show(0, 0, 1424, 0);
        due("the last minute", x.firstFree(0, 0, 1410), 1439);
        due("the last minute from itself", x.firstFree(0, 0, 1439), 1439);
        due("elsewhere it would be 1449", x.firstFree(0, 1, 1410), NONE);
        x.drop(0);
        x.show(0, 0, 1414, 0);
        due("elsewhere the last minute", x.firstFree(0, 1, 1400), 1439);
    }

    /** "NONE if there is none." */
    private static void promise16NoneIsLeft() {
        CircuitReels x = circuitOf(1);
        x.show(0, 0, 1425, 0);
        due("it would be 1440", x.firstFree(0, 0, 1411), NONE);
        due("from the last minute", x.firstFree(0, 0, 1439), NONE);
        due("ahead of it", x.firstFree(0, 0, 1410), 1410);
        CircuitReels y = circuitOf(1);
        y.set(LAST, 60);
        for (int show = 0; show < 19; show++) {
            y.show(0, 0, 79 * show + 1, 0);
        }
        due("19 minutes are too few between all of them", y.firstFree(0, 0, 0), NONE);
        y.set(LAST, 39);
        due("and 40 are enough", y.firstFree(0, 0, 0), 40);
    }

    /** It may wait as long as it does anyway. */
    private static void promise16NoneWaitsLonger() {
        int[] ways = {7, 8, 9};
        int[] free = {1, 1, 12};
        for (int index = 0; index < ways.length; index++) {
            CircuitReels x = circuitOf(1);
            x.set(LAST, 1);
            x.way(0, 2, 1);
            x.way(1, 2, ways[index]);
            x.show(0, 1, 5, 0);
            due("it waits from 5 to 10", x.ofShow(0, 6), 5);
            // From house 2 it leaves at 2; behind the show it leaves house 1 at 11.
            int want = free[index] == 1 ? 1 : 11 + ways[index];
            due("by a way of " + ways[index], x.firstFree(0, 2, 0), want);
            x.set(WAIT, 60);
            due("by a way of " + ways[index] + " with patience", x.firstFree(0, 2, 0), want);
        }
    }

    /** A show that misses a reel waits for nothing, so with the reel it would wait longer. */
    private static void promise16WaitingInPlaceOfMissing() {
        CircuitReels x = circuitOf(1);
        x.set(LAST, 1);
        x.way(0, 1, 20);
        x.way(0, 2, 1);
        x.way(1, 2, 5);
        x.show(0, 1, 5, 0);
        due("it misses the reel", x.ofShow(0, 7), 1);
        due("it would wait from 2 to 5 minutes, or miss it anyway", x.firstFree(0, 2, 0), 5);
        x.way(1, 2, 3);
        due("it would have it just by then", x.firstFree(0, 2, 0), 1);
    }

    /** It may miss as many as it does anyway. */
    private static void promise16NoneMissesMore() {
        CircuitReels x = circuitOf(2);
        x.set(WAIT, 0);
        x.show(0, 1, 9, 0);
        due("it misses both", x.ofShow(0, 7), 3);
        due("so it misses no more", x.firstFree(0, 0, 0), 0);
        x.drop(0);
        x.show(0, 1, 10, 0);
        due("it misses none", x.ofShow(0, 7), 0);
        due("so it would miss more", x.firstFree(0, 0, 0), 35);
        x.drop(0);
        x.show(0, 0, 3, 0);
        x.show(0, 0, 3, 0);
        x.show(0, 0, 3, 0);
        due("shows ahead of it miss no more", x.firstFree(0, 0, 0), 18);
        x.set(WAIT, 60);
        due("and wait no longer", x.firstFree(0, 0, 0), 48);
    }

    /** "Misses more reels" counts them: it may miss another reel in place of one. */
    private static void promise16AsManyButOthers() {
        CircuitReels x = circuitOf(3);
        x.set(LAST, 1);
        x.set(WAIT, 0);
        x.set(MEND, 3);
        x.show(0, 0, 9, 0);
        x.show(0, 0, 10, 0);
        x.show(0, 0, 11, 0);
        x.tear(0, 0, 3);
        x.tear(0, 2, 10);
        // Reel 0 is torn at 9, too late for 10 and 11; torn at 4 it is there for both, but then reel 2 is torn at 10.
        due("missed at 11 without it", x.ofShow(2, 7), 1);
        due("the first minute", x.firstFree(0, 0, 4), 4);
        x.show(0, 0, 4, 0);
        due("missed at 11 with it", x.ofShow(2, 7), 4);
        due("missed at 10 with it", x.ofShow(1, 7), 0);
    }

    private static void promise16OtherFilms() {
        CircuitReels x = circuitOf(1);
        x.film(1, 0, 0);
        for (int show = 0; show < 19; show++) {
            x.show(1, 0, 10 * show, 0);
        }
        due("they have reels of their own", x.firstFree(0, 0, 100), 100);
        due("but its own film is in the way", x.firstFree(1, 0, 0), 195);
    }

    /** The show may be the one for which a tear counts, and another one the one for which it counts no more. */
    private static void promise16TornReels() {
        CircuitReels x = circuitOf(1);
        x.set(WAIT, 60);
        x.tear(0, 0, 50);
        x.show(0, 0, 100, 0);
        due("ahead of the tear", x.firstFree(0, 0, 49), 49);
        due("mended by then", x.firstFree(0, 0, 75), 75);
        due("a minute too late", x.firstFree(0, 0, 76), 125);
        x.show(0, 0, 125, 0);
        due("behind both", x.firstFree(0, 0, 76), 140);
    }

    /** "TOO_MANY if there are 20 shows." */
    private static void promise16NineteenShows() {
        CircuitReels x = circuitOf(1);
        for (int show = 0; show < 19; show++) {
            x.show(0, 0, 70 * show, 0);
        }
        due("with 19 shows", x.firstFree(0, 0, 0), 15);
        due("with 19 shows, at the end", x.firstFree(0, 0, 1439), 1439);
        x.show(0, 0, 15, 0);
        due("with 20 shows", x.firstFree(0, 0, 0), TOO_MANY);
        x.drop(3);
        due("with 19 again", x.firstFree(0, 0, 0), 30);
        due("in place of the dropped one", x.firstFree(0, 0, 200), 200);
    }

    private static void promise17NoShows() {
        CircuitReels x = new CircuitReels();
        due("without films", x.slower(0), 1000);
        due("without films", x.slower(99), 1000);
        x.film(6, 0, 0);
        due("without shows", x.slower(99), 1000);
    }

    private static void promise17NoMinutesMore() {
        CircuitReels x = Circuits.busy();
        due("no minutes more", x.slower(0), 1000);
        CircuitReels y = Circuits.full();
        due("no minutes more", y.slower(0), 1000);
    }

    /** "If all ways took some minutes more": one is enough, if a reel was there just in time. */
    private static void promise17OneMinuteMore() {
        CircuitReels x = circuitOf(1);
        x.show(0, 1, 5, 0);
        due("it waits as long as it may", x.ofShow(0, 6), 5);
        due("one minute more", x.slower(1), 1001);
        x.set(WAIT, 6);
        due("one minute more with more patience", x.slower(1), 1000);
        due("two minutes more", x.slower(2), 1001);
        due("99 minutes more", x.slower(99), 1001);
    }

    private static void promise17WithinAHouse() {
        CircuitReels x = circuitOf(6);
        for (int show = 0; show < 20; show++) {
            x.show(0, 0, 15 * show, 0);
        }
        due("none is missed", x.count(3), 0);
        due("there is no way", x.slower(99), 1000);
    }

    private static void promise17EachWay() {
        for (int home = 0; home < 4; home++) {
            for (int house = 0; house < 4; house++) {
                CircuitReels x = new CircuitReels();
                x.film(1, home, 0);
                x.show(0, house, 10, 0);
                due("from " + home + " to " + house + ", 5 minutes more", x.slower(5), 1000);
                due("from " + home + " to " + house + ", 6 minutes more", x.slower(6), home == house ? 1000 : 1001);
            }
        }
    }

    private static void promise17OneWayAfterAnother() {
        CircuitReels x = circuitOf(1);
        x.show(0, 1, 10, 0);
        x.show(0, 2, 35, 0);
        int[] more = {0, 1, 2, 3, 5, 6, 24, 30, 31};
        int[] missed = {1000, 1000, 1000, 1001, 1001, 1001, 1001, 1001, 1002};
        // Up to 2 the second show waits for twice as long as the first one; from 6 on only the first one misses it.
        for (int index = 0; index < more.length; index++) {
            due("slower(" + more[index] + ")", x.slower(more[index]), missed[index]);
        }
    }

    private static void promise17LongerThan99() {
        CircuitReels x = circuitOf(1);
        x.set(WAIT, 0);
        x.way(0, 1, 99);
        x.show(0, 1, 197, 0);
        due("there at 197", x.slower(98), 1000);
        due("there at 198", x.slower(99), 1001);
    }

    private static void promise17MostOfAll() {
        CircuitReels x = circuitOf(6);
        x.set(LAST, 1);
        x.set(WAIT, 0);
        for (int show = 0; show < 20; show++) {
            x.show(0, 1, 10 + show, 0);
        }
        due("none is missed", x.count(3), 0);
        due("there at 28", x.slower(18), 1000 + 18 * 6);
        due("there at 29", x.slower(19), 1000 + 19 * 6);
        due("there at 30", x.slower(20), 1120);
        due("there at 109", x.slower(99), 1120);
        x.set(WAIT, 5);
        due("there at 29, with patience", x.slower(19), 1000 + 14 * 6);
    }

    /** "It can be fewer." */
    private static void promise17Fewer() {
        CircuitReels x = circuitOf(6);
        x.set(LAST, 1);
        x.set(WAIT, 0);
        x.way(0, 1, 60);
        x.show(0, 1, 60, 0);
        for (int show = 0; show < 19; show++) {
            x.show(0, 0, 61 + show, 0);
        }
        due("all but the first show miss all", x.count(3), 114);
        due("only the first one does", x.slower(1), 1000 - 108);
        due("also with 99 minutes", x.slower(99), 1000 - 108);
        due("as many", x.slower(0), 1000);
    }

    /** "What if; nothing changes." */
    private static void nothingChanges() {
        String busy = Circuits.everything(Circuits::busy);
        String full = Circuits.everything(Circuits::full);
        checkNoChange("firstFree", busy, x -> x.firstFree(1, 2, 0));
        checkNoChange("firstFree of none", busy, x -> x.firstFree(0, 1, 1439));
        checkNoChange("slower(99)", busy, x -> x.slower(99));
        checks.holds("slower changes nothing in a full circuit", full.equals(Circuits.everything(() -> {
            CircuitReels x = Circuits.full();
            x.slower(7);
            return x;
        })));
    }

    private static void checkNoChange(String call, String everything, ToIntFunction<CircuitReels> caller) {
        checks.holds(call + " changes nothing", everything.equals(Circuits.everything(() -> {
            CircuitReels x = Circuits.busy();
            caller.applyAsInt(x);
            return x;
        })));
    }
}
