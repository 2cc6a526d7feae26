/** Promise 10: merge, at its bounds. */
public final class Promise10Test {
    private static final String FIRST_SEARCH = "refresh() 2\nsearch(0, 1) 0\ncount(6) 1\n";

    public static void main(String[] args) {
        Run.all(Promise10Test.class);
    }

    static void noSegment(Run run) {
        run.check("merge() 0\ncount(2) 0\n");
    }

    /** A new segment would have no filter yet. */
    static void oneWithoutARemovedDocumentStaysTheSame(Run run) {
        run.check(Calls.documents(0, 2) + "flush() 2\n" + FIRST_SEARCH + "merge() 0\ncount(2) 1\nrefresh() 2\ncount(8) 1\nsearch(0, 1) 0\n"
            + "count(6) 1\ncount(7) 1\n");
    }

    static void oneWithARemovedDocumentBecomesANewOne(Run run) {
        run.check(Calls.documents(0, 2) + "flush() 2\n" + FIRST_SEARCH + "remove(1) -\nmerge() 1\ncount(2) 1\nrefresh() 1\ncount(8) 0\n"
            + "search(0, 1) 0\ncount(6) 2\ncount(7) 0\n");
    }

    static void oneWithJustRemovedDocumentsBecomesNone(Run run) {
        run.check(Calls.documents(0, 2) + "flush() 2\nremove(0) -\nremove(1) -\nmerge() 2\ncount(2) 0\nmerge() 0\nrefresh() 0\n"
            + "count(3) 0\n");
    }

    static void twoWithoutARemovedDocumentBecomeANewOne(Run run) {
        run.check(Calls.segments(0, 2) + "refresh() 2\nsearch(0, 1) 0\ncount(6) 2\nmerge() 0\ncount(2) 1\nrefresh() 2\ncount(8) 0\n"
            + "search(0, 1) 0\ncount(6) 3\n");
    }

    static void twoWithARemovedDocument(Run run) {
        run.check(Calls.segments(0, 2) + "remove(0) -\nmerge() 1\ncount(2) 1\nrefresh() 1\n");
    }

    static void sixBecomeOne(Run run) {
        run.check(Calls.segments(0, 6) + "remove(5) -\nremove(0) -\nmerge() 2\ncount(2) 1\nrefresh() 4\nmerge() 0\n");
    }

    static void sixWithJustRemovedDocumentsBecomeNone(Run run) {
        run.check(Calls.segments(0, 6) + Calls.each(0, 6, "remove(#) -") + "merge() 6\ncount(2) 0\nmerge() 0\nrefresh() 0\n");
    }

    static void twiceInARow(Run run) {
        run.check(Calls.segments(0, 3) + "remove(1) -\nmerge() 1\nmerge() 0\ncount(2) 1\n");
    }

    static void theBufferStays(Run run) {
        run.check(Calls.documents(0, 2) + "merge() 0\ncount(1) 2\ncount(2) 0\nflush() 2\n" + Calls.documents(2, 5) + "remove(0) -\n"
            + "merge() 1\ncount(1) 3\ncount(2) 1\nflush() 3\ncount(2) 2\nrefresh() 4\n");
    }

    static void removedDocumentsOfTheBufferDoNotGo(Run run) {
        run.check(Calls.documents(0, 1) + "flush() 1\n" + Calls.documents(1, 3) + "remove(1) -\nmerge() 0\ncount(2) 1\nflush() 1\n"
            + "merge() 0\ncount(2) 1\nrefresh() 2\n");
    }

    static void fortyDocumentsGo(Run run) {
        run.check(Calls.documents(0, 40) + "flush() 40\n" + Calls.each(0, 40, "remove(#) -") + "merge() 40\ncount(2) 0\n");
    }

    static void blocksAreFilledAnew(Run run) {
        run.check(Calls.documents(0, 5) + "flush() 5\n" + Calls.documents(5, 8) + "flush() 3\nclause(0, 1, 0, 1.0) 1\nrefresh() 8\n"
            + "search(0, 8) 0\ncount(4) 3\nmerge() 0\nrefresh() 8\nsearch(0, 8) 0\ncount(4) 2\n"
            + "remove(2) -\nremove(3) -\nremove(4) -\nrefresh() 5\nsearch(0, 8) 0\ncount(4) 2\nremove(5) -\nmerge() 4\nrefresh() 4\n"
            + "search(0, 8) 0\ncount(4) 1\n");
    }

    static void theNewOneHasRisingIds(Run run) {
        run.check(Calls.documents(0, 3) + "flush() 3\n" + Calls.documents(3, 6) + "flush() 3\nremove(1) -\nremove(3) -\nmerge() 2\n"
            + "clause(0, 0, 0, 1.0) 1\nrefresh() 4\nsearch(0, 8) 4\nhit(0) 0\nhit(1) 2\nhit(2) 4\nhit(3) 5\n");
    }

    static void theSnapshotKeepsItsSegments(Run run) {
        run.check(Calls.segments(0, 6) + "refresh() 6\n" + Calls.each(0, 6, "remove(#) -") + "merge() 6\ncount(3) 6\n"
            + "clause(0, 0, 0, 1.0) 1\nsearch(0, 8) 6\ncount(4) 6\nrefresh() 0\ncount(3) 0\nsearch(0, 8) 0\ncount(4) 0\n");
    }
}
