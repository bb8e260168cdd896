import java.util.ArrayDeque;
import java.util.Deque;
import java.util.Random;
import java.util.function.ToIntFunction;

/** Promises 22 to 24: no states, six and more, changes that make no difference, slots that are empty, full, overwritten. */
public final class HistoryTest {
    private static final int NO_SUCH = -1, BAD_VALUE = -2, NOT_POSSIBLE = -5, NONE = -6;
    private static final int LAST = CircuitReels.LAST, WAIT = CircuitReels.WAIT, PRICE = CircuitReels.PRICE;
    private static final Checks checks = new Checks();

    public static void main(String[] args) {
        promise22NoState();
        promise22OneToSix();
        promise22TheOldestIsDropped();
        promise22GoesRound();
        promise22EachChange();
        promise22WhatIsNoChange();
        promise22NothingDifferent();
        promise22RefusedCalls();
        promise22RefusedWhenFull();
        promise22BringsAllBack();
        promise22LeavesPadAndSlots();
        promise22ThenAnother();
        promise23EachSlot();
        promise23Overwrites();
        promise23KeepsWhatWas();
        promise23IsNoChange();
        promise23LeavesTheRest();
        promise23ThenUndo();
        promise24NothingSaved();
        promise24AnEmptyCircuit();
        promise24AFullCircuit();
        promise24AnotherFilmOfTheNumber();
        promise24TheSlotKeepsIt();
        promise24IsAChange();
        promise24LeavesPadAndSlots();
        checks.end();
    }

    private static void due(String call, long got, long want) {
        checks.due(call, got, want);
    }

    /** "NOT_POSSIBLE if there is none." */
    private static void promise22NoState() {
        CircuitReels x = new CircuitReels();
        for (int times = 0; times < 10; times++) {
            due("undo of nothing", x.undo(), NOT_POSSIBLE);
            due("changes", x.count(14), 0);
        }
        due("a change behind it", x.set(LAST, 20), 15);
        due("undo", x.undo(), 0);
        due("LAST", x.count(8), 15);
        due("undo again", x.undo(), NOT_POSSIBLE);
        due("LAST stays", x.count(8), 15);
    }

    /** "Returns how many changes can be undone then." */
    private static void promise22OneToSix() {
        for (int changes = 1; changes <= 6; changes++) {
            CircuitReels x = new CircuitReels();
            for (int change = 1; change <= changes; change++) {
                x.set(LAST, 30 + change);
                due("changes", x.count(14), change);
            }
            for (int left = changes - 1; left >= 0; left--) {
                due("undo", x.undo(), left);
                due("changes", x.count(14), left);
                due("LAST", x.count(8), left == 0 ? 15 : 30 + left);
            }
            due("undo of one more", x.undo(), NOT_POSSIBLE);
        }
    }

    /** "When one more is recorded, the oldest one is dropped." */
    private static void promise22TheOldestIsDropped() {
        for (int changes = 7; changes <= 25; changes++) {
            CircuitReels x = new CircuitReels();
            for (int change = 1; change <= changes; change++) {
                x.set(LAST, 30 + change);
            }
            due("changes", x.count(14), 6);
            for (int left = 5; left >= 0; left--) {
                due("undo", x.undo(), left);
            }
            due("LAST of the oldest state", x.count(8), 30 + changes - 6);
            due("undo of one more", x.undo(), NOT_POSSIBLE);
        }
    }

    /** Changes and undos in turns, with a list of what was. */
    private static void promise22GoesRound() {
        Random random = new Random(22);
        CircuitReels x = new CircuitReels();
        Deque<Integer> past = new ArrayDeque<>();
        int now = 5;
        for (int call = 0; call < 512; call++) {
            if (random.nextInt(5) < 3) {
                int next = random.nextInt(100);
                past.addLast(now);
                if (past.size() > 6) {
                    past.removeFirst();
                }
                due("set", x.set(PRICE, next), now);
                now = next;
            } else if (past.isEmpty()) {
                due("undo of none", x.undo(), NOT_POSSIBLE);
            } else {
                now = past.removeLast();
                due("undo", x.undo(), past.size());
            }
        }
        due("PRICE", x.count(12), now);
    }

    /** "Each method that is a change, and returns no error, records the state before it." */
    private static void promise22EachChange() {
        checkChange("set", x -> x.set(PRICE, 1), 5);
        checkChange("film", x -> x.film(1, 1, 1), 2);
        checkChange("way", x -> x.way(0, 1, 1), 10);
        checkChange("show", x -> x.show(1, 1, 1, 1), 3);
        checkChange("drop", x -> x.drop(1), 2);
        checkChange("tear", x -> x.tear(0, 0, 1), NONE);
        checkChange("tear in place of another", x -> x.tear(0, 1, 1), 20);
        checkChange("glue", x -> x.glue(0, 1), 20);
        checkChange("carryOut", CircuitReels::carryOut, 2);
        checkChange("restore", x -> x.restore(1), 0);
    }

    private static void checkChange(String call, ToIntFunction<CircuitReels> caller, int answer) {
        CircuitReels x = Circuits.busy();
        x.undo();
        due("changes ahead of " + call, x.count(14), 4);
        x = Circuits.busy();
        due(call, caller.applyAsInt(x), answer);
        due("changes behind " + call, x.count(14), 6);
        due("undo of " + call, x.undo(), 5);
    }

    /** Questions, puts and saves record nothing, and so does an undo. */
    private static void promise22WhatIsNoChange() {
        CircuitReels x = Circuits.busy();
        x.ofFilm(0, 0);
        x.ofShow(0, 4);
        x.shown(0, 0);
        x.where(0, 0, 0);
        x.ofHouse(0, 0);
        x.advert(0);
        x.firstFree(0, 0, 0);
        x.slower(9);
        x.put('x');
        x.fault();
        due("carryOut with a fault", x.carryOut(), -3);
        x.wipe();
        x.save(0);
        x.save(1);
        due("changes", x.count(14), 5);
        due("undo", x.undo(), 4);
        due("undo again", x.undo(), 3);
    }

    /** "Also if nothing is different then." */
    private static void promise22NothingDifferent() {
        CircuitReels x = Circuits.busy();
        x.save(0);
        String[] calls = {"set of the same", "way of the same", "tear of the same", "restore of the same"};
        int[] answers = {5, 14, 20, 3};
        for (int call = 0; call < 4; call++) {
            while (x.count(14) > 3) {
                x.undo();
            }
            x.restore(0);
            due(calls[call], callWithoutDifference(x, call), answers[call]);
            due("changes behind " + calls[call], x.count(14), 5);
            due("undo of " + calls[call], x.undo(), 4);
            due("shows", x.count(1), 3);
        }
    }

    private static int callWithoutDifference(CircuitReels x, int call) {
        switch (call) {
            case 0: return x.set(WAIT, 5);
            case 1: return x.way(2, 1, 14);
            case 2: return x.tear(0, 1, 20);
            default: return x.restore(0);
        }
    }

    private static void promise22RefusedCalls() {
        CircuitReels x = new CircuitReels();
        x.film(2, 0, 0);
        due("set", x.set(PRICE, 100), BAD_VALUE);
        due("film", x.film(7, 0, 0), BAD_VALUE);
        due("way", x.way(0, 0, 1), BAD_VALUE);
        due("show", x.show(1, 0, 0, 0), NO_SUCH);
        due("drop", x.drop(0), NO_SUCH);
        due("tear", x.tear(0, 2, 0), NO_SUCH);
        due("glue", x.glue(0, 0), NOT_POSSIBLE);
        due("restore", x.restore(0), NOT_POSSIBLE);
        due("changes", x.count(14), 1);
        due("undo of the film", x.undo(), 0);
        due("films", x.count(0), 0);
    }

    /** A refused call drops no old state, and puts none in its place. */
    private static void promise22RefusedWhenFull() {
        for (int changes = 6; changes < 14; changes++) {
            CircuitReels x = new CircuitReels();
            for (int change = 1; change <= changes; change++) {
                x.set(LAST, 30 + change);
                x.set(LAST, 61);
                x.restore(0);
                x.drop(0);
            }
            for (int left = 5; left >= 0; left--) {
                x.glue(0, 0);
                due("undo", x.undo(), left);
                x.way(1, 1, 1);
                due("LAST", x.count(8), changes - 6 + left == 0 ? 15 : 30 + changes - 6 + left);
            }
        }
    }

    /** "Everything except the pad, the slots and the history is as it was before it." */
    private static void promise22BringsAllBack() {
        String before = Circuits.everything(HistoryTest::busyByOneChange);
        checkUndone("set", before, x -> x.set(LAST, 60));
        checkUndone("film", before, x -> x.film(6, 0, 9));
        checkUndone("way", before, x -> x.way(0, 2, 99));
        checkUndone("show", before, x -> x.show(0, 0, 0, 999));
        checkUndone("drop", before, x -> x.drop(0));
        checkUndone("tear", before, x -> x.tear(1, 5, 0));
        checkUndone("tear in place of another", before, x -> x.tear(0, 1, 1439));
        checkUndone("glue", before, x -> x.glue(0, 1));
        checkUndone("restore", before, x -> x.restore(1));
    }

    private static CircuitReels busyByOneChange() {
        CircuitReels x = new CircuitReels();
        x.save(1);
        Checks.write(x, "f2@1%33;f6@3%99;w12=14;s0@2:40*100;s1@3:50*70;s0@1:66*55;t0/1:20");
        x.carryOut();
        Checks.write(x, "-1;w01=6;f1@1%1");
        return x;
    }

    private static void checkUndone(String call, String before, ToIntFunction<CircuitReels> caller) {
        int answer = caller.applyAsInt(busyByOneChange());
        checks.holds(call + " is no error", answer >= 0 || answer == NONE);
        checks.holds(call + " is undone", before.equals(Circuits.everything(() -> {
            CircuitReels x = busyByOneChange();
            caller.applyAsInt(x);
            x.undo();
            return x;
        })));
    }

    private static void promise22LeavesPadAndSlots() {
        CircuitReels x = new CircuitReels();
        x.film(1, 0, 0);
        x.show(0, 0, 0, 0);
        x.put('a');
        x.save(0);
        x.set(WAIT, 1);
        x.put('b');
        x.save(1);
        due("undo", x.undo(), 2);
        due("the pad", x.count(13), 2);
        due("undo", x.undo(), 1);
        due("undo", x.undo(), 0);
        due("the pad", x.count(13), 2);
        due("films", x.count(0), 0);
        due("the first slot", x.restore(0), 1);
        due("WAIT in it", x.count(9), 5);
        due("the second slot", x.restore(1), 1);
        due("WAIT in it", x.count(9), 1);
    }

    /** What was undone is gone, and a new change comes in its place. */
    private static void promise22ThenAnother() {
        CircuitReels x = new CircuitReels();
        for (int value = 1; value <= 6; value++) {
            x.set(PRICE, 10 * value);
        }
        x.undo();
        x.undo();
        x.set(PRICE, 77);
        due("changes", x.count(14), 5);
        due("undo", x.undo(), 4);
        due("PRICE", x.count(12), 40);
        due("undo", x.undo(), 3);
        due("PRICE", x.count(12), 30);
    }

    /** "slot: 0 or 1." */
    private static void promise23EachSlot() {
        CircuitReels x = new CircuitReels();
        x.film(1, 0, 0);
        x.show(0, 0, 1, 0);
        due("save(0)", x.save(0), 1);
        x.show(0, 0, 2, 0);
        due("save(1)", x.save(1), 2);
        x.show(0, 0, 3, 0);
        due("save(2)", x.save(2), BAD_VALUE);
        due("save(-1)", x.save(-1), BAD_VALUE);
        due("restore(0)", x.restore(0), 1);
        due("restore(1)", x.restore(1), 2);
    }

    /** "Overwrites what was saved there." */
    private static void promise23Overwrites() {
        CircuitReels x = Circuits.full();
        due("save(1) of a full circuit", x.save(1), 20);
        for (int show = 19; show >= 0; show--) {
            x.drop(show);
        }
        due("save(1) of a circuit without shows", x.save(1), 0);
        x.set(PRICE, 1);
        due("restore(1)", x.restore(1), 0);
        due("PRICE", x.count(12), 9);
        due("restore(0), which was saved without shows, too", x.restore(0), 0);
        due("PRICE in it", x.count(12), 5);
    }

    /** A film that was undone may be saved, and another one may have come with its number. */
    private static void promise24AnotherFilmOfTheNumber() {
        CircuitReels x = new CircuitReels();
        x.film(3, 2, 44);
        x.tear(0, 2, 9);
        x.save(0);
        x.undo();
        x.undo();
        x.film(5, 1, 66);
        x.show(0, 0, 700, 0);
        int[] saved = {3, 2, 44, 0, 0, 0};
        int[] other = {5, 1, 66, 1, 5, 0};
        checkFilm(x, other);
        due("restore(0)", x.restore(0), 0);
        checkFilm(x, saved);
        due("its tear", x.tear(0, 2, 9), 9);
        x.undo();
        due("undo of restore", x.undo(), 2);
        checkFilm(x, other);
        due("no tear", x.glue(0, 2), NOT_POSSIBLE);
    }

    private static void checkFilm(CircuitReels x, int[] want) {
        for (int what = 0; what < 6; what++) {
            due("ofFilm(0, " + what + ")", x.ofFilm(0, what), want[what]);
        }
    }

    /** Later changes don't reach into what was saved. */
    private static void promise23KeepsWhatWas() {
        CircuitReels x = Circuits.busy();
        x.save(0);
        x.set(LAST, 1);
        x.film(1, 1, 1);
        x.way(1, 2, 99);
        x.drop(0);
        x.show(1, 1, 1, 1);
        x.tear(0, 1, 999);
        due("restore(0)", x.restore(0), 3);
        due("LAST", x.count(8), 15);
        due("films", x.count(0), 2);
        due("minute of show 0", x.ofShow(0, 2), 40);
        due("the tear", x.glue(0, 1), 20);
        due("the way", x.way(1, 2, 1), 14);
    }

    private static void promise23IsNoChange() {
        CircuitReels x = new CircuitReels();
        due("save(0)", x.save(0), 0);
        due("save(1)", x.save(1), 0);
        due("changes", x.count(14), 0);
        due("undo", x.undo(), NOT_POSSIBLE);
    }

    /** "Except the pad, the history and the slots." */
    private static void promise23LeavesTheRest() {
        checks.holds("a save of what is saved already changes nothing",
            Circuits.everything(() -> busySaved(1)).equals(Circuits.everything(() -> busySaved(2))));
        CircuitReels x = new CircuitReels();
        Checks.write(x, "w01=5");
        x.set(PRICE, 7);
        x.save(0);
        x.wipe();
        x.put('-');
        x.undo();
        due("restore(0)", x.restore(0), 0);
        due("the pad is not that of the save", x.count(13), 1);
        due("the history is not that of the save", x.count(14), 1);
    }

    private static CircuitReels busySaved(int times) {
        CircuitReels x = Circuits.busy();
        for (int saved = 0; saved < times; saved++) {
            due("save(0)", x.save(0), 3);
        }
        return x;
    }

    private static void promise23ThenUndo() {
        CircuitReels x = new CircuitReels();
        x.film(3, 2, 1);
        x.save(0);
        x.undo();
        due("no film", x.count(0), 0);
        due("restore(0)", x.restore(0), 0);
        due("the film of the save", x.ofFilm(0, 0), 3);
    }

    /** "NOT_POSSIBLE if nothing was saved in it." */
    private static void promise24NothingSaved() {
        CircuitReels x = Circuits.busy();
        due("restore(0)", x.restore(0), NOT_POSSIBLE);
        due("shows", x.count(1), 3);
        due("restore(1)", x.restore(1), 0);
        due("restore(0) still", x.restore(0), NOT_POSSIBLE);
        due("restore(2)", x.restore(2), BAD_VALUE);
        due("restore(-1)", x.restore(-1), BAD_VALUE);
    }

    /** What is saved may be empty: it is restored all the same. */
    private static void promise24AnEmptyCircuit() {
        CircuitReels x = new CircuitReels();
        x.save(1);
        x.film(1, 0, 0);
        x.tear(0, 0, 7);
        x.show(0, 0, 0, 0);
        due("restore(1)", x.restore(1), 0);
        due("films", x.count(0), 0);
        due("a film again", x.film(1, 0, 0), 0);
        due("without its tear", x.glue(0, 0), NOT_POSSIBLE);
        due("restore(0)", x.restore(0), NOT_POSSIBLE);
    }

    private static void promise24AFullCircuit() {
        CircuitReels x = Circuits.full();
        x.save(0);
        CircuitReels y = Circuits.full();
        x.wipe();
        Checks.write(x, "-0;".repeat(19) + "-0");
        due("without shows", x.carryOut(), 20);
        due("restore(0)", x.restore(0), 20);
        for (int show = 0; show < 20; show++) {
            for (int what = 0; what < 12; what++) {
                due("ofShow(" + show + ", " + what + ")", x.ofShow(show, what), y.ofShow(show, what));
            }
        }
    }

    /** "Which keeps it." */
    private static void promise24TheSlotKeepsIt() {
        CircuitReels x = Circuits.busy();
        x.save(0);
        for (int times = 0; times < 10; times++) {
            x.set(LAST, 30 + times);
            x.drop(0);
            x.glue(0, 1);
            x.way(1, 2, 50);
            due("restore(0)", x.restore(0), 3);
            due("LAST", x.count(8), 15);
            due("the tear", x.tear(0, 1, 20), 20);
            due("the way", x.way(1, 2, 14), 14);
        }
    }

    /** "This is a change." */
    private static void promise24IsAChange() {
        CircuitReels x = Circuits.busy();
        x.undo();
        due("restore(1)", x.restore(1), 0);
        due("changes", x.count(14), 5);
        due("films", x.count(0), 2);
        due("undo", x.undo(), 4);
        due("shows", x.count(1), 3);
        for (int times = 0; times < 9; times++) {
            x.restore(1);
        }
        due("changes", x.count(14), 6);
        for (int times = 0; times < 6; times++) {
            x.undo();
        }
        due("what the oldest restore left", x.count(1), 0);
        due("undo", x.undo(), NOT_POSSIBLE);
    }

    private static void promise24LeavesPadAndSlots() {
        CircuitReels x = Circuits.busy();
        int length = x.count(13);
        x.save(0);
        x.restore(1);
        due("the pad", x.count(13), length);
        due("its fault", x.fault(), NONE);
        due("the other slot", x.restore(0), 3);
        due("the slot itself", x.restore(1), 0);
    }
}
