/** The chapter "Texts" and promises 18 to 21: every place of an order, a full pad, an empty one, orders that fail. */
public final class TextsTest {
    private static final int NO_SUCH = -1, BAD_VALUE = -2, BAD_TEXT = -3, TOO_MANY = -4, NONE = -6;
    private static final String DIGITS = "0123456789";
    private static final String[] ORDERS = {"f1@2%3", "s4@5:6*7", "w89=1", "t2/3:4", "-5"};
    private static final Checks checks = new Checks();

    public static void main(String[] args) {
        promise18EachCode();
        promise18OneToEightCharacters();
        promise18NoMoreCharacters();
        promise18OrderOfCharacters();
        promise18UpTo80();
        promise18IsNoChange();
        promise19EmptiesThePad();
        promise20EachPlaceOfEachOrder();
        promise20DigitsOfEachOrder();
        promise20Numbers();
        promise20LeadingZeros();
        promise20BehindAnOrder();
        promise20EndsTooEarly();
        promise20AtTheEndOfAFullPad();
        promise20ChangesNothing();
        promise21EachOrder();
        promise21NumbersOfFourDigits();
        promise21EachOrderFails();
        promise21UpToTheFirstError();
        promise21LongestText();
        promise21ShortestText();
        promise21NoneIsNoError();
        promise21FullOfFilmsAndShows();
        promise21IsOneChange();
        promise21WithAFault();
        promise21PadBehindIt();
        checks.end();
    }

    private static void due(String call, long got, long want) {
        checks.due(call, got, want);
    }

    private static CircuitReels withText(String text) {
        CircuitReels x = new CircuitReels();
        due("put of " + text, Checks.write(x, text), text.length());
        return x;
    }

    private static void checkFault(String text, int fault) {
        due("the fault of " + text, withText(text).fault(), fault);
    }

    /** "A code is not 33 to 126." */
    private static void promise18EachCode() {
        for (int code = 0; code < 256; code++) {
            boolean good = code >= 33 && code <= 126;
            due("put of " + code, new CircuitReels().put(code), good ? 1 : BAD_VALUE);
            due("put of " + code + " behind a", new CircuitReels().put('a' << 8 | code), good ? 2 : BAD_VALUE);
            // Ahead of others, 0 means that there are no more characters.
            due("put of " + code + " ahead of a", new CircuitReels().put(code << 8 | 'a'), good ? 2 : code == 0 ? 1 : BAD_VALUE);
            due("put of " + code + " as the first of eight", new CircuitReels().put((long) code << 56 | 0x61616161616161L),
                good ? 8 : code == 0 ? 7 : BAD_VALUE);
        }
    }

    /** "characters: 1 to 8 characters." */
    private static void promise18OneToEightCharacters() {
        CircuitReels x = new CircuitReels();
        int length = 0;
        for (int many = 1; many <= 8; many++) {
            length += many;
            due("put of " + many, x.put(Checks.packed("~!~!~!~!".substring(0, many))), length);
        }
        due("the length", x.count(13), 36);
    }

    /** "8 bits that are 0 mean that there are no more characters, and everything above them has to be 0, too." */
    private static void promise18NoMoreCharacters() {
        due("put of none", new CircuitReels().put(0), BAD_VALUE);
        for (int bits = 8; bits <= 56; bits += 8) {
            for (int bit = bits; bit < 64; bit++) {
                // Ones below `bits`, 8 bits that are 0, and one bit above them.
                long characters = 0x6161616161616161L & (1L << bits) - 1;
                int want = bit < bits + 8 ? bits / 8 : BAD_VALUE;
                long above = bit < bits + 8 ? 0 : 1L << bit;
                due("put(" + (characters | above) + ")", new CircuitReels().put(characters | above), want);
            }
            due("put of none below " + bits, new CircuitReels().put(0x61L << bits), BAD_VALUE);
        }
    }

    /** "Its lowest 8 bits are the last character, the next 8 bits the one before, and so on." */
    private static void promise18OrderOfCharacters() {
        CircuitReels x = new CircuitReels();
        x.put(0x773031);
        due("w01 goes on", x.fault(), 3);
        x.put(0x3d33);
        due("w01=3 is whole", x.fault(), NONE);
        due("carryOut", x.carryOut(), 1);
        due("the way", x.way(0, 1, 1), 3);
        x.put(0x733040313a322a33L);
        due("s0@1:2*3 is whole", x.fault(), NONE);
    }

    /** "TOO_MANY if the pad would be longer than 80." */
    private static void promise18UpTo80() {
        for (int many = 1; many <= 8; many++) {
            for (int length = 80 - many; length <= 80; length++) {
                CircuitReels x = withText("x".repeat(length));
                int want = length + many > 80 ? TOO_MANY : length + many;
                due("put of " + many + " onto " + length, x.put(Checks.packed("y".repeat(many))), want);
                due("the length behind it", x.count(13), want == TOO_MANY ? length : want);
            }
        }
        CircuitReels y = withText("x".repeat(80));
        due("a character that can't be put at all", y.put(32), BAD_VALUE);
        due("none onto a full pad", y.put(0), BAD_VALUE);
    }

    private static void promise18IsNoChange() {
        CircuitReels x = withText("-0");
        due("changes behind put", x.count(14), 0);
        x.fault();
        x.wipe();
        due("changes behind wipe", x.count(14), 0);
    }

    /** "Empties the pad, and returns the length that it had." */
    private static void promise19EmptiesThePad() {
        for (int length : new int[] {0, 1, 7, 8, 9, 79, 80}) {
            CircuitReels x = withText("-".repeat(length));
            due("wipe of " + length, x.wipe(), length);
            due("wipe again", x.wipe(), 0);
            due("the length", x.count(13), 0);
            due("the fault", x.fault(), 0);
            due("put behind it", x.put('-'), 1);
            due("nothing is left behind it", x.fault(), 1);
        }
    }

    /** "The index of the first character that cannot stand at its place": every character at every place. */
    private static void promise20EachPlaceOfEachOrder() {
        checkPlace("", "fswt-");
        String[] places = {"#@#%#", "#@#:#*#", "##=#", "#/#:#", "#"};
        for (int order = 0; order < ORDERS.length; order++) {
            for (int place = 1; place < ORDERS[order].length(); place++) {
                char sign = places[order].charAt(place - 1);
                // The number of an s ahead of its seats may go on.
                boolean mayGoOn = order == 1 && place == 6;
                String allowed = sign == '#' ? DIGITS : mayGoOn ? DIGITS + sign : "" + sign;
                checkPlace(ORDERS[order].substring(0, place), allowed);
            }
            checkPlace(ORDERS[order], DIGITS + ";");
            checkPlace(ORDERS[order] + ";", "fswt-");
        }
    }

    /** Behind the text only the allowed characters can stand; all the others are its fault. */
    private static void checkPlace(String text, String allowed) {
        for (char next = 33; next <= 126; next++) {
            CircuitReels x = withText(text + next);
            int fault = x.fault();
            if (allowed.indexOf(next) < 0) {
                due("the fault of " + text + next, fault, text.length());
            } else {
                checks.holds(text + next + " has its fault at its end or none", fault == NONE || fault == text.length() + 1);
            }
        }
    }

    /** "A digit is 0 to 9": no value is a fault, also if the call would refuse it. */
    private static void promise20DigitsOfEachOrder() {
        for (char digit = '0'; digit <= '9'; digit++) {
            checkFault("f" + digit + "@" + digit + "%" + digit, NONE);
            checkFault("s" + digit + "@" + digit + ":" + digit + "*" + digit, NONE);
            checkFault("w" + digit + digit + "=" + digit, NONE);
            checkFault("t" + digit + "/" + digit + ":" + digit, NONE);
            checkFault("-" + digit, NONE);
        }
        checkFault("f10@2%3", 2);
        checkFault("f1@20%3", 4);
        checkFault("s10@2:3*4", 2);
        checkFault("s1@20:3*4", 4);
        checkFault("w012=3", 3);
        checkFault("t10/2:3", 2);
        checkFault("t1/20:3", 4);
    }

    /** "A number 0 to 9999"; "also of a digit by which a number would be above 9999". */
    private static void promise20Numbers() {
        for (String head : new String[] {"f1@2%", "s1@2:", "s1@2:3*", "w12=", "t1/2:", "-"}) {
            String tail = head.equals("s1@2:") ? "*0" : "";
            for (String number : new String[] {"0", "1", "9", "10", "99", "100", "999", "1000", "9999"}) {
                checkFault(head + number + tail, NONE);
                checkFault(head + number + tail + ";-0", NONE);
            }
            for (String number : new String[] {"10000", "99990", "99999", "10001"}) {
                checkFault(head + number + tail, head.length() + 4);
            }
            checkFault(head + "123456" + tail, head.length() + 4);
        }
    }

    /** "Without leading zeros": behind a 0 no digit can stand. */
    private static void promise20LeadingZeros() {
        for (String head : new String[] {"f1@2%", "s1@2:", "s1@2:3*", "w12=", "t1/2:", "-"}) {
            for (String number : new String[] {"00", "01", "09", "000", "0001", "012345"}) {
                checkFault(head + number, head.length() + 1);
            }
        }
        checkFault("f0@0%0", NONE);
        checkFault("-100", NONE);
    }

    /** "order { ";" order }". */
    private static void promise20BehindAnOrder() {
        for (String one : ORDERS) {
            for (String other : ORDERS) {
                checkFault(one + ";" + other, NONE);
                checkFault(one + ";;" + other, one.length() + 1);
                checkFault(";" + one, 0);
                checkFault(one + ";" + other + ";", one.length() + other.length() + 2);
                checkFault(one + ";" + other + "x", one.length() + other.length() + 1);
                checkFault(one + other, one.length());
            }
        }
    }

    /** "If the text ends too early (also if it is empty), it is the length of the text." */
    private static void promise20EndsTooEarly() {
        due("the fault of no text", new CircuitReels().fault(), 0);
        for (String order : ORDERS) {
            for (int length = 0; length < order.length(); length++) {
                checkFault(order.substring(0, length), length);
                checkFault("-0;" + order.substring(0, length), 3 + length);
            }
            checkFault(order, NONE);
        }
        // The number of an s ahead of its seats ends with no text, also if it is as long as can be.
        checkFault("s1@2:9999", 9);
        checkFault("s1@2:0", 6);
    }

    private static void promise20AtTheEndOfAFullPad() {
        String most = "-0;".repeat(26);
        checkFault(most + "-0", NONE);
        checkFault(most + "-;", 79);
        checkFault(most + "-x", 79);
        checkFault(most + "w0", 80);
        checkFault(most + "x0", 78);
        checkFault("w00=0;" + "-10;".repeat(18) + "-9", NONE);
        checkFault("w00=10;" + "-10;".repeat(18) + ";", 79);
        checkFault("w00=1;" + "-10;".repeat(18) + "9;", 78);
        checkFault("w00=11;-1;" + "-10;".repeat(17) + "-;", 79);
        checkFault("-0;-1;-2;" + "-1000;".repeat(11) + "-100;", 80);
        checkFault("-0;-1;-2;" + "-1000;".repeat(11) + "-1000", NONE);
    }

    private static void promise20ChangesNothing() {
        CircuitReels x = withText("w01=5;x");
        for (int times = 0; times < 3; times++) {
            due("fault", x.fault(), 6);
            due("the length", x.count(13), 7);
        }
        due("changes", x.count(14), 0);
        due("the way", x.way(0, 1, 1), 10);
    }

    /** "f", "s", "w", "t", "-": each one as its call. */
    private static void promise21EachOrder() {
        CircuitReels x = withText("f6@3%100;s0@2:1439*999;w32=99;t0/5:1439;s0@0:0*0");
        due("carryOut", x.carryOut(), 5);
        int[] film = {6, 3, 100, 2};
        int[][] shows = {{0, 2, 1439, 999}, {0, 0, 0, 0}};
        for (int what = 0; what < 4; what++) {
            due("ofFilm(0, " + what + ")", x.ofFilm(0, what), film[what]);
            due("ofShow(0, " + what + ")", x.ofShow(0, what), shows[0][what]);
            due("ofShow(1, " + what + ")", x.ofShow(1, what), shows[1][what]);
        }
        due("the way", x.way(2, 3, 1), 99);
        due("the tear", x.glue(0, 5), 1439);
        Checks.write(x, "-0");
        due("carryOut of a drop", x.carryOut(), 1);
        due("the show behind it moves up", x.ofShow(0, 2), 0);
        due("shows", x.count(1), 1);
    }

    /** Numbers that no call takes are read, and refused by it. */
    private static void promise21NumbersOfFourDigits() {
        for (String order : new String[] {"f1@0%9999", "s0@0:9999*0", "s0@0:0*9999", "w01=9999", "t0/0:9999", "-9999"}) {
            CircuitReels x = new CircuitReels();
            x.film(1, 0, 0);
            x.show(0, 0, 0, 0);
            Checks.write(x, order);
            due("carryOut of " + order, x.carryOut(), 0);
            due("the pad behind it", x.count(13), 0);
            due("changes behind it", x.count(14), 3);
        }
    }

    /** "The first one that returns an error": each order for each value that its call refuses. */
    private static void promise21EachOrderFails() {
        String[] orders = {"f0@0%0", "f7@0%0", "f9@0%0", "f1@4%0", "f1@9%0", "f1@0%101",
            "s1@0:0*0", "s9@0:0*0", "s0@4:0*0", "s0@9:0*0", "s0@0:1440*0", "s0@0:0*1000",
            "w04=1", "w40=1", "w90=1", "w00=1", "w33=5", "w01=0", "w01=100",
            "t1/0:0", "t9/0:0", "t0/2:0", "t0/9:0", "t0/0:1440", "-1", "-2", "-20"};
        for (String order : orders) {
            CircuitReels x = new CircuitReels();
            x.film(2, 0, 0);
            x.show(0, 0, 0, 0);
            Checks.write(x, "w12=3;" + order + ";w12=4");
            due("carryOut up to " + order, x.carryOut(), 1);
            due("nothing behind it", x.way(1, 2, 1), 3);
            due("films", x.count(0), 1);
            due("shows", x.count(1), 1);
            due("tears", x.tear(0, 0, 0), NONE);
        }
    }

    private static void promise21UpToTheFirstError() {
        for (int place = 0; place < 8; place++) {
            CircuitReels x = new CircuitReels();
            StringBuilder text = new StringBuilder();
            for (int order = 0; order < 8; order++) {
                text.append(order == 0 ? "" : ";").append(order == place ? "w11=1" : "w01=" + (order + 20));
            }
            Checks.write(x, text.toString());
            due("carryOut up to order " + place, x.carryOut(), place);
            due("the way", x.way(0, 1, 1), place == 0 ? 10 : place + 19);
            due("the pad is empty", x.wipe(), 0);
        }
    }

    /** 27 orders in 80 characters. */
    private static void promise21LongestText() {
        CircuitReels x = Circuits.full();
        x.wipe();
        due("27 drops", Checks.write(x, "-0;".repeat(26) + "-0"), 80);
        due("20 of them are carried out", x.carryOut(), 20);
        due("no shows", x.count(1), 0);
        Checks.write(x, "w01=2;".repeat(13) + "-0");
        due("13 ways and a drop of none", x.carryOut(), 13);
        Checks.write(x, "w01=2;".repeat(12) + "w01=3333");
        due("12 ways and one too long", x.carryOut(), 12);
        x.undo();
        x.undo();
        due("undone in one", x.undo(), 3);
        due("all shows", x.count(1), 20);
        Checks.write(x, "-0;".repeat(19) + "-0");
        due("all drops", x.carryOut(), 20);
    }

    private static void promise21ShortestText() {
        CircuitReels x = new CircuitReels();
        x.film(1, 0, 0);
        x.show(0, 0, 0, 0);
        x.put(Checks.packed("-0"));
        due("one order", x.carryOut(), 1);
        due("no shows", x.count(1), 0);
        x.put(Checks.packed("-0"));
        due("one order that fails", x.carryOut(), 0);
        due("no text", x.carryOut(), BAD_TEXT);
    }

    /** "tear() a reel of a film, from a minute on (NONE is no error)." */
    private static void promise21NoneIsNoError() {
        CircuitReels x = new CircuitReels();
        x.film(2, 0, 0);
        Checks.write(x, "t0/0:5;t0/0:6;t0/1:0;w01=7");
        due("carryOut", x.carryOut(), 4);
        due("the first tear", x.glue(0, 0), 6);
        due("the second tear", x.glue(0, 1), 0);
        due("the way behind them", x.way(0, 1, 1), 7);
    }

    private static void promise21FullOfFilmsAndShows() {
        CircuitReels x = withText("f1@0%0;f2@1%1;f3@2%2;f4@3%3;f5@0%4;f6@1%5");
        due("five films and no sixth one", x.carryOut(), 5);
        due("films", x.count(0), 5);
        due("the last one", x.ofFilm(4, 0), 5);
        for (int show = 0; show < 18; show++) {
            x.show(0, 0, show, 0);
        }
        Checks.write(x, "s0@1:1*1;s1@2:2*2;s2@3:3*3;s3@0:4*4");
        due("two shows and no third one", x.carryOut(), 2);
        due("shows", x.count(1), 20);
        due("the last one", x.ofShow(19, 2), 2);
        Checks.write(x, "-0;s2@3:3*3");
        due("one more behind a drop", x.carryOut(), 2);
        due("the last one", x.ofShow(19, 2), 3);
        due("shows of no film", x.ofShow(20, 0), NO_SUCH);
    }

    /** "This is a change (one, with all of them; also if none is carried out)." */
    private static void promise21IsOneChange() {
        CircuitReels x = withText("f1@0%0;s0@0:0*0;s0@0:9*0");
        due("carryOut", x.carryOut(), 3);
        due("changes", x.count(14), 1);
        Checks.write(x, "-2");
        due("carryOut of none", x.carryOut(), 0);
        due("changes", x.count(14), 2);
        Checks.write(x, "-0;-1");
        due("carryOut up to an error", x.carryOut(), 1);
        due("changes", x.count(14), 3);
        due("undo of one drop", x.undo(), 2);
        due("shows", x.count(1), 2);
        due("undo of none", x.undo(), 1);
        due("shows", x.count(1), 2);
        due("undo of three", x.undo(), 0);
        due("films", x.count(0), 0);
    }

    /** "BAD_TEXT if the pad has a fault (then it stays)." */
    private static void promise21WithAFault() {
        CircuitReels x = withText("w01=5;w12=6;");
        due("carryOut", x.carryOut(), BAD_TEXT);
        due("carryOut again", x.carryOut(), BAD_TEXT);
        due("the pad", x.count(13), 12);
        due("changes", x.count(14), 0);
        Checks.write(x, "w23=7");
        due("carryOut of what is whole now", x.carryOut(), 3);
        due("the first way", x.way(0, 1, 1), 5);
        due("the last way", x.way(2, 3, 1), 7);
    }

    /** "And empties the pad." */
    private static void promise21PadBehindIt() {
        CircuitReels x = withText("w01=55");
        x.carryOut();
        due("the length", x.count(13), 0);
        due("the fault", x.fault(), 0);
        due("wipe", x.wipe(), 0);
        Checks.write(x, "w01=6");
        due("a shorter text", x.carryOut(), 1);
        due("nothing is left of the longer one", x.way(0, 1, 1), 6);
        x.undo();
        x.undo();
        due("undo doesn't bring it back", x.count(13), 0);
        x.put(Checks.packed("ab"));
        due("and takes nothing off it", x.undo(), 0);
        due("the length", x.count(13), 2);
    }
}
