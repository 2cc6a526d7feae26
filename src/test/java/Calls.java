/** Pieces of runs that several tests use, written as Run reads them. */
final class Calls {
    static final String WRONG = " throws.IllegalArgumentException\n";
    static final String FULL = " throws.IllegalStateException\n";
    static final String GONE = " throws.NoSuchElementException\n";
    static final String NO_HIT = " throws.IndexOutOfBoundsException\n";
    static final String VEILED = " throws.UnsupportedOperationException\n";

    private Calls() {
    }

    /** The rows once for each number, which stands where they have a '#'. */
    static String each(int from, int end, String rows) {
        StringBuilder text = new StringBuilder();
        for (int i = from; i < end; i++) {
            text.append(rows.replace("#", "" + i)).append('\n');
        }
        return text.toString();
    }

    /** Documents that user 0 may read, all with weight 1 for term 0 in field 0. */
    static String documents(int from, int end) {
        return each(from, end, "rule(0, true) true\nweigh(0, 0, 1.0) 16\nadd(-1) #");
    }

    /** Such documents, each in a segment of its own. */
    static String segments(int from, int end) {
        return each(from, end, "rule(0, true) true\nweigh(0, 0, 1.0) 16\nadd(-1) #\nflush() 1");
    }

    /** What the draft must be like to become a document that user 0 may read, with this weight for term 0 in field 0. */
    static String document(int id, double weight) {
        return "rule(0, true) true\nweigh(0, 0, " + weight + ") " + (int) (weight * 16) + "\nadd(-1) " + id + "\n";
    }
}
