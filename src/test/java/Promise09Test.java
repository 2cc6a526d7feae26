/** Promise 9: flush, at its bounds. */
public final class Promise09Test {
    public static void main(String[] args) {
        Run.all(Promise09Test.class);
    }

    static void anEmptyBufferMakesNone(Run run) {
        run.check("flush() 0\ncount(2) 0\nflush() 0\ncount(2) 0\n");
    }

    static void aBufferThatWasFlushedIsEmpty(Run run) {
        run.check(Calls.documents(0, 3) + "flush() 3\ncount(1) 0\ncount(2) 1\nflush() 0\ncount(2) 1\nrefresh() 3\ncount(3) 1\n");
    }

    static void aBufferThatLostAllIsEmpty(Run run) {
        run.check(Calls.documents(0, 2) + "remove(0) -\nremove(1) -\nflush() 0\ncount(2) 0\n");
    }

    static void oneDocument(Run run) {
        run.check("add(-1) 0\nflush() 1\ncount(1) 0\ncount(2) 1\n");
    }

    static void fortyDocuments(Run run) {
        run.check(Calls.documents(0, 40) + "flush() 40\ncount(1) 0\ncount(2) 1\nrefresh() 40\n");
    }

    static void removedDocumentsDoNotCount(Run run) {
        run.check(Calls.documents(0, 5) + "remove(0) -\nremove(4) -\nflush() 3\n");
    }

    static void theSixthSegmentIsTheLast(Run run) {
        run.check(Calls.segments(0, 6) + "count(2) 6\nadd(-1) 6\nflush()" + Calls.FULL + "count(2) 6\n");
    }

    /** The document throws with 6 segments, whatever is in the buffer. */
    static void with6SegmentsAlsoAnEmptyBufferIsRefused(Run run) {
        run.check(Calls.segments(0, 6) + "count(1) 0\nflush()" + Calls.FULL);
    }

    static void with5SegmentsAnEmptyBufferIsNotRefused(Run run) {
        run.check(Calls.segments(0, 5) + "flush() 0\ncount(2) 5\n");
    }

    static void theBufferStaysWith6Segments(Run run) {
        run.check(Calls.segments(0, 6) + Calls.documents(6, 9) + "flush()" + Calls.FULL + "count(1) 3\nremove(7) -\nflush()" + Calls.FULL
            + "count(1) 2\nmerge() 0\nflush() 2\ncount(2) 2\nrefresh() 8\n");
    }

    static void segmentsOfTheSnapshotDoNotCount(Run run) {
        run.check(Calls.segments(0, 6) + "refresh() 6\nmerge() 0\ncount(3) 6\n" + Calls.segments(6, 11) + "count(2) 6\nadd(-1) 11\nflush()"
            + Calls.FULL);
    }

    static void segmentsWithoutAnyLivingDocumentStillCount(Run run) {
        run.check(Calls.segments(0, 6) + Calls.each(0, 6, "remove(#) -") + "count(2) 6\nadd(-1) 6\nflush()" + Calls.FULL + "merge() 6\n"
            + "count(2) 0\nflush() 1\n");
    }

    static void theSnapshotDoesNotKnowItBeforeTheNextRefresh(Run run) {
        run.check(Calls.documents(0, 1) + "flush() 1\ncount(3) 0\nclause(0, 0, 0, 1.0) 1\nsearch(0, 8) 0\nrefresh() 1\ncount(3) 1\n"
            + "search(0, 8) 1\n");
    }
}
