import java.util.function.Supplier;

/** Circuits to begin a test with, and all that their calls can tell of them. */
final class Circuits {
    private static final int UNDONE_AT_MOST = 7;

    private Circuits() {
    }

    /** Some of each: films, shows that wait and miss reels, tears, a history that is not full, one slot, a text. */
    static CircuitReels busy() {
        CircuitReels x = new CircuitReels();
        x.film(2, 1, 33);
        x.film(6, 3, 100);
        x.way(1, 2, 14);
        x.save(1);
        x.show(0, 2, 40, 100);
        x.show(1, 3, 50, 70);
        x.show(0, 1, 66, 55);
        x.tear(0, 1, 20);
        x.show(1, 0, 66, 31);
        x.undo();
        Checks.write(x, "s1@3:900*8;w03=7");
        return x;
    }

    /** Nothing more goes into it: 5 films, 20 shows, 6 states to go back to, both slots, 80 characters. */
    static CircuitReels full() {
        CircuitReels x = new CircuitReels();
        for (int film = 0; film < 5; film++) {
            x.film(film + 2, film % 4, 20 * film + 7);
        }
        x.way(0, 1, 6);
        x.save(0);
        for (int show = 0; show < 20; show++) {
            x.show(show % 5, show % 4, 1000 - 37 * show, 50 * show + 3);
        }
        x.tear(3, 2, 400);
        x.set(CircuitReels.WAIT, 12);
        x.save(1);
        x.set(CircuitReels.PRICE, 9);
        x.drop(4);
        x.show(2, 2, 555, 44);
        x.glue(3, 2);
        x.way(2, 3, 4);
        x.tear(4, 5, 333);
        Checks.write(x, "w12=5;t1/2:300;-19;-18;-17;-16;-15;-14;-13;-12;-11;-10;s0@1:100*9;s1@2:100*9;-1");
        x.put('1');
        return x;
    }

    /**
     * All that can be asked of a circuit, of the states that it can go back to, of those in its slots,
     * and of what its text makes of it. Each group of questions has a circuit of its own, which is made anew,
     * since an object is good for 512 calls.
     */
    static String everything(Supplier<CircuitReels> maker) {
        StringBuilder all = new StringBuilder();
        for (int undone = 0; undone <= UNDONE_AT_MOST; undone++) {
            askGroups(maker, undone, all);
        }
        for (int slot = 0; slot < 2; slot++) {
            CircuitReels x = maker.get();
            all.append("\nslot ").append(slot).append(": ").append(x.restore(slot));
            askShows(x, all);
            askFilmsAndWays(x, all);
        }
        CircuitReels x = maker.get();
        all.append("\ntext: ").append(x.fault()).append(' ').append(x.carryOut());
        askShows(x, all);
        askFilmsAndWays(x, all);
        all.append("\nchanges: ").append(x.count(14));
        return all.toString();
    }

    private static void askGroups(Supplier<CircuitReels> maker, int undone, StringBuilder all) {
        CircuitReels x = maker.get();
        CircuitReels other = maker.get();
        for (int times = 0; times < undone; times++) {
            all.append("\nundo: ").append(x.undo());
            other.undo();
        }
        askShows(x, all);
        askFilmsAndWays(other, all);
    }

    private static void askShows(CircuitReels x, StringBuilder all) {
        for (int what = 0; what < 15; what++) {
            all.append(' ').append(x.count(what));
        }
        int shows = x.count(1);
        for (int show = 0; show < shows; show++) {
            all.append("\nshow ").append(show).append(':');
            for (int what : new int[] {0, 1, 2, 3, 4, 5, 6, 7, 10}) {
                all.append(' ').append(x.ofShow(show, what));
            }
        }
    }

    private static void askFilmsAndWays(CircuitReels x, StringBuilder all) {
        int films = x.count(0);
        for (int film = 0; film < films; film++) {
            all.append("\nfilm ").append(film).append(':');
            for (int what = 0; what < 6; what++) {
                all.append(' ').append(x.ofFilm(film, what));
            }
            for (int reel = 0; reel < 6; reel++) {
                all.append(' ').append(x.where(film, reel, 60)).append(' ').append(x.where(film, reel, 9999));
                all.append(' ').append(x.glue(film, reel));
            }
        }
        all.append("\nways:");
        for (int one = 0; one < 4; one++) {
            for (int other = 0; other < one; other++) {
                all.append(' ').append(x.way(one, other, 1));
            }
        }
    }
}
