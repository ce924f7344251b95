/** Puts texts on the TAPE of an object. */
final class Tape {
    private static final int BYTES_FED = 20;

    private Tape() {
    }

    /** The four bytes of text from there on as one number, the highest first, with blanks behind its end. */
    static int four(String text, int from) {
        int number = 0;
        for (int i = from; i < from + 4; i++) {
            number = number << 8 | (i < text.length() ? text.charAt(i) : ' ');
        }
        return number;
    }

    /** Twenty bytes of text from there on. */
    static int feed(SawSums x, String text, int from) {
        return x.feed(four(text, from), four(text, from + 4), four(text, from + 8), four(text, from + 12),
            four(text, from + 16));
    }

    /** Puts a text of at most 300 signs on an empty TAPE. */
    static void put(Check check, SawSums x, String text) {
        check.due("TAPE ahead of " + text, 0, x.count(0));
        for (int i = 0; i < text.length(); i += BYTES_FED) {
            check.due("feed", i + BYTES_FED, feed(x, text, i));
        }
        check.yes("end", x.end(text.length()));
        check.due("bytes", text.length(), x.count(0));
    }

    /** Puts it there and has it worked out. */
    static int tell(Check check, SawSums x, String text) {
        put(check, x, text);
        int fault = x.tell();
        check.due("TAPE behind " + text, 0, x.count(0));
        return fault;
    }
}
