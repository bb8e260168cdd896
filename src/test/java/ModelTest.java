import java.util.Random;

/** Random runs of 512 calls, each answer compared with that of PlainCircuit; the seeds are fixed. */
public final class ModelTest {
    private static final int RUNS = 500, CALLS = 512;

    private final Random random;
    private final Checks checks;
    private final int seed;
    private final int busyMinutes;
    private final boolean wild;
    private final CircuitReels circuit = new CircuitReels();
    private final PlainCircuit plain = new PlainCircuit();

    private ModelTest(int seed, Checks checks) {
        this.seed = seed;
        this.checks = checks;
        random = new Random(seed);
        busyMinutes = seed % 3 == 0 ? 1440 : seed % 3 == 1 ? 200 : 600;
        wild = seed % 10 == 9;
    }

    public static void main(String[] args) {
        Checks checks = new Checks();
        for (int seed = 0; seed < RUNS && checks.allHold(); seed++) {
            new ModelTest(seed, checks).run();
        }
        checks.end();
    }

    private void run() {
        for (int call = 0; call < CALLS && checks.allHold(); call++) {
            if (call < 3) {
                int[] values = {1 + random.nextInt(6), random.nextInt(4), random.nextInt(101)};
                due("film", values, circuit.film(values[0], values[1], values[2]), plain.film(values[0], values[1], values[2]));
            } else {
                callOne();
            }
        }
    }

    private void due(String call, int[] values, int got, int want) {
        checks.due("seed " + seed + ": " + call + java.util.Arrays.toString(values), got, want);
    }

    /** Mostly within the range, often at its edges, now and then beside it, seldom far off. */
    private int number(int least, int most) {
        int kind = random.nextInt(wild ? 20 : 60);
        switch (kind) {
            case 0: return least - 1;
            case 1: return most + 1;
            case 2: return least;
            case 3: return most;
            case 4: return wild ? random.nextInt() : least;
            case 5: return wild ? Integer.MIN_VALUE >> random.nextInt(3) : most;
            default: return least + random.nextInt(most - least + 1);
        }
    }

    private int minute() {
        return random.nextInt(8) == 0 ? number(0, 1439) : number(0, busyMinutes - 1);
    }

    private int film() {
        return number(0, Math.max(0, plain.count(0) - 1));
    }

    private int show() {
        return number(0, Math.max(0, plain.count(1) - 1));
    }

    private void callOne() {
        int kind = random.nextInt(100);
        if (kind < 42) {
            change(kind);
        } else if (kind < 75) {
            ask(kind);
        } else if (kind < 82) {
            askWhatIf(kind);
        } else if (kind < 92) {
            write(kind);
        } else {
            goBack(kind);
        }
    }

    private void change(int kind) {
        if (kind < 6) {
            int setting = number(0, 4);
            int[] most = {60, 60, 60, 9, 99};
            int[] v = {setting, number(setting == 0 ? 1 : 0, setting >= 0 && setting < 5 ? most[setting] : 9)};
            due("set", v, circuit.set(v[0], v[1]), plain.set(v[0], v[1]));
        } else if (kind < 8) {
            int[] v = {number(1, 6), number(0, 3), number(0, 100)};
            due("film", v, circuit.film(v[0], v[1], v[2]), plain.film(v[0], v[1], v[2]));
        } else if (kind < 12) {
            int[] v = {number(0, 3), number(0, 3), number(1, random.nextBoolean() ? 99 : 20)};
            due("way", v, circuit.way(v[0], v[1], v[2]), plain.way(v[0], v[1], v[2]));
        } else if (kind < 29) {
            int[] v = {film(), number(0, 3), minute(), number(0, 999)};
            due("show", v, circuit.show(v[0], v[1], v[2], v[3]), plain.show(v[0], v[1], v[2], v[3]));
        } else if (kind < 34) {
            int[] v = {show()};
            due("drop", v, circuit.drop(v[0]), plain.drop(v[0]));
        } else if (kind < 40) {
            int[] v = {film(), number(0, 5), minute()};
            due("tear", v, circuit.tear(v[0], v[1], v[2]), plain.tear(v[0], v[1], v[2]));
        } else {
            int[] v = {film(), number(0, 5)};
            due("glue", v, circuit.glue(v[0], v[1]), plain.glue(v[0], v[1]));
        }
    }

    private void ask(int kind) {
        if (kind < 46) {
            int[] v = {film(), number(0, 5)};
            due("ofFilm", v, circuit.ofFilm(v[0], v[1]), plain.ofFilm(v[0], v[1]));
        } else if (kind < 54) {
            int[] v = {show(), number(0, 11)};
            due("ofShow", v, circuit.ofShow(v[0], v[1]), plain.ofShow(v[0], v[1]));
        } else if (kind < 59) {
            int[] v = {show(), number(0, 5)};
            due("shown", v, circuit.shown(v[0], v[1]), plain.shown(v[0], v[1]));
        } else if (kind < 65) {
            int[] v = {film(), number(0, 5), number(0, random.nextInt(5) == 0 ? 9999 : busyMinutes + 100)};
            due("where", v, circuit.where(v[0], v[1], v[2]), plain.where(v[0], v[1], v[2]));
        } else if (kind < 70) {
            int[] v = {number(0, 14)};
            due("count", v, circuit.count(v[0]), plain.count(v[0]));
        } else if (kind < 73) {
            int[] v = {number(0, 3), number(0, 3)};
            due("ofHouse", v, circuit.ofHouse(v[0], v[1]), plain.ofHouse(v[0], v[1]));
        } else {
            int[] v = {number(0, 6)};
            due("advert", v, circuit.advert(v[0]), plain.advert(v[0]));
        }
    }

    private void askWhatIf(int kind) {
        if (kind < 78) {
            int[] v = {film(), number(0, 3), minute()};
            due("firstFree", v, circuit.firstFree(v[0], v[1], v[2]), plain.firstFree(v[0], v[1], v[2]));
        } else {
            int[] v = {number(0, random.nextBoolean() ? 99 : 15)};
            due("slower", v, circuit.slower(v[0]), plain.slower(v[0]));
        }
    }

    private void write(int kind) {
        int[] none = {};
        if (kind < 87) {
            String text = plain.count(13) == 0 || random.nextInt(10) == 0 ? order() : ";" + order();
            for (int from = 0; from < text.length(); from += 8) {
                putBoth(Checks.packed(text.substring(from, Math.min(text.length(), from + 8))));
            }
        } else if (kind == 87) {
            putBoth(wild ? random.nextLong() >>> random.nextInt(64) : 33 + random.nextInt(94));
        } else if (kind == 88) {
            due("wipe", none, circuit.wipe(), plain.wipe());
        } else if (kind == 89) {
            due("fault", none, circuit.fault(), plain.fault());
        } else {
            due("fault", none, circuit.fault(), plain.fault());
            due("carryOut", none, circuit.carryOut(), plain.carryOut());
        }
    }

    private void putBoth(long characters) {
        checks.due("seed " + seed + ": put " + characters, circuit.put(characters), plain.put(characters));
    }

    private String order() {
        StringBuilder text = new StringBuilder();
        switch (random.nextInt(7)) {
            case 0: text.append('f').append(digit(6)).append('@').append(digit(3)).append('%').append(value(100)); break;
            case 1: text.append('w').append(digit(3)).append(digit(3)).append('=').append(value(99)); break;
            case 2: text.append('t').append(digit(4)).append('/').append(digit(5)).append(':').append(value(1439)); break;
            case 3: text.append('-').append(value(Math.max(0, plain.count(1) - 1))); break;
            default: text.append('s').append(digit(2)).append('@').append(digit(3)).append(':').append(value(1439));
                text.append('*').append(value(999)); break;
        }
        if (random.nextInt(12) == 0) {
            text.setCharAt(random.nextInt(text.length()), "0123456789fswt-@%:*=/;x!~".charAt(random.nextInt(25)));
        }
        return text.toString();
    }

    private int digit(int most) {
        return random.nextInt(30) == 0 ? random.nextInt(10) : random.nextInt(most + 1);
    }

    private String value(int most) {
        switch (random.nextInt(60)) {
            case 0: return "0" + random.nextInt(100);
            case 1: return "1" + (1000 + random.nextInt(9000));
            case 2: return "9999";
            default: return Integer.toString(random.nextInt(most + 1));
        }
    }

    private void goBack(int kind) {
        int[] none = {};
        if (kind < 96) {
            due("undo", none, circuit.undo(), plain.undo());
        } else if (kind < 98) {
            int[] v = {number(0, 1)};
            due("save", v, circuit.save(v[0]), plain.save(v[0]));
        } else {
            int[] v = {number(0, 1)};
            due("restore", v, circuit.restore(v[0]), plain.restore(v[0]));
        }
    }
}
