/** Counts the answers that are not as due, and prints the first ones of them. */
final class Checks {
    private static final int PRINTED_AT_MOST = 40;

    private int wrong = 0;
    private int made = 0;

    void due(String call, long got, long want) {
        made++;
        if (got != want) {
            printWrong(call + " answered " + got + ", due is " + want);
        }
    }

    void holds(String what, boolean isSo) {
        made++;
        if (!isSo) {
            printWrong("does not hold: " + what);
        }
    }

    private void printWrong(String what) {
        wrong++;
        if (wrong <= PRINTED_AT_MOST) {
            System.out.println(what);
        }
    }

    boolean allHold() {
        return wrong == 0;
    }

    void end() {
        System.out.println(wrong == 0 ? made + " checks hold" : wrong + " of " + made + " checks fail");
        if (wrong != 0) {
            System.exit(1);
        }
    }

    /** Appends a text to the pad, eight characters at a time; the answer of the last call. */
    static int write(CircuitReels circuit, String text) {
        int answer = 0;
        for (int from = 0; from < text.length(); from += 8) {
            answer = circuit.put(packed(text.substring(from, Math.min(text.length(), from + 8))));
        }
        return answer;
    }

    static long packed(String characters) {
        long number = 0;
        for (char character : characters.toCharArray()) {
            number = number << 8 | character;
        }
        return number;
    }
}
