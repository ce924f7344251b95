/** Hands out one object for many calls, and a new one once it has been used as often as the document allows. */
final class Fresh {
    /** The document says nothing of an object behind this many calls. */
    static final int MOST_CALLS = 512;
    private SawSums now = new SawSums();
    private int calls;

    /** For one call. */
    SawSums one() {
        if (calls == MOST_CALLS) {
            now = new SawSums();
            calls = 0;
        }
        calls++;
        return now;
    }
}
