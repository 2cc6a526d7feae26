/** Promise 18: count, at its bounds. */
public final class Promise18Test {
    public static void main(String[] args) {
        Run.all(Promise18Test.class);
    }

    static void whatIs0To8(Run run) {
        run.check("count(-1)" + Calls.WRONG);
        run.check("count(0) 0\n");
        run.check("count(8) 0\n");
        run.check("count(9)" + Calls.WRONG);
    }

    static void or10To17(Run run) {
        run.check("count(9)" + Calls.WRONG);
        run.check("count(10) 1\n");
        run.check("count(17) 128\n");
        run.check("count(18)" + Calls.WRONG);
    }

    static void or20To27(Run run) {
        run.check("count(19)" + Calls.WRONG);
        run.check("count(20) 1\n");
        run.check("count(27) 128\n");
        run.check("count(28)" + Calls.WRONG);
    }

    static void othersAreWrong(Run run) {
        run.check(Calls.each(-40, 0, "count(#)" + Calls.WRONG) + Calls.each(28, 140, "count(#)" + Calls.WRONG) + "count(2147483647)"
            + Calls.WRONG + "count(-2147483648)" + Calls.WRONG + "count(256)" + Calls.WRONG);
    }

    static void idsFrom0To40(Run run) {
        run.check(Calls.each(0, 40, "count(0) #\nadd(-1) #") + "count(0) 40\nadd(-1)" + Calls.FULL + "count(0) 40\nremove(0) -\n"
            + "count(0) 40\nflush() 39\nmerge() 0\ncount(0) 40\n");
    }

    static void theBufferFrom0To40(Run run) {
        run.check(Calls.each(0, 40, "count(1) #\nadd(-1) #") + "count(1) 40\nremove(39) -\ncount(1) 39\nflush() 39\ncount(1) 0\n");
    }

    static void segmentsFrom0To6(Run run) {
        run.check(Calls.each(0, 6, "count(2) #\nadd(-1) #\nflush() 1") + "count(2) 6\ncount(3) 0\nmerge() 0\ncount(2) 1\n");
    }

    static void segmentsOfTheSnapshotFrom0To6(Run run) {
        run.check("count(3) 0\n" + Calls.segments(0, 1) + "refresh() 1\ncount(3) 1\n" + Calls.segments(1, 6) + "count(3) 1\nrefresh() 6\n"
            + "count(3) 6\nmerge() 0\ncount(3) 6\nrefresh() 6\ncount(3) 1\n");
    }

    static void blocksFrom0(Run run) {
        run.check("count(4) 0\nsearch(0, 8) 0\ncount(4) 0\n" + Calls.segments(0, 5) + Calls.documents(5, 40) + "flush() 35\nrefresh() 40\n"
            + "search(0, 8) 0\ncount(4) 14\nclause(0, 0, 0, 1.0) 1\nsearch(0, 1) 1\ncount(4) 1\n");
    }

    static void documentsFoundFrom0To40(Run run) {
        StringBuilder calls = new StringBuilder("count(5) 0\n");
        for (int id = 0; id < 40; id++) {
            calls.append(Calls.document(id, (id + 1) / 4.0));
        }
        run.check(calls + "flush() 40\nrefresh() 40\nclause(0, 0, 0, 1.0) 1\nsearch(0, 1) 1\ncount(4) 10\ncount(5) 40\nhit(0) 39\n"
            + "search(1, 1) 0\ncount(4) 10\ncount(5) 0\n");
    }

    static void ofTheLatestSearchAlone(Run run) {
        run.check(Calls.documents(0, 5) + "flush() 5\nrefresh() 5\nclause(0, 0, 0, 1.0) 1\nsearch(0, 8) 5\ncount(4) 2\ncount(5) 5\n"
            + "search(0, 1) 1\ncount(4) 1\ncount(5) 4\nsearch(0, 1) 1\ncount(4) 1\ncount(5) 4\n");
    }

    static void filtersThatWereMadeAndUsedSoFar(Run run) {
        run.check("count(6) 0\ncount(7) 0\n" + Calls.segments(0, 1) + "refresh() 1\nsearch(0, 1) 0\ncount(6) 1\ncount(7) 0\n"
            + "search(0, 1) 0\ncount(6) 1\ncount(7) 1\n"
            + "member(0, 8, true) true\nrefresh() 1\ncount(6) 1\ncount(7) 1\nsearch(0, 1) 0\ncount(6) 2\ncount(7) 1\n");
    }

    static void keptFiltersFrom0To5(Run run) {
        run.check(Calls.segments(0, 1) + "refresh() 1\n" + Calls.each(0, 5, "count(8) #\nsearch(#, 1) 0") + Calls.each(5, 8, "count(8) 5\n"
            + "search(#, 1) 0") + "count(8) 5\nlevel(0, 0, 1) 0\nrefresh() 1\ncount(8) 0\n");
    }

    static void tokensAsTheyAreNowAndByTheSnapshot(Run run) {
        for (int u = 0; u < 8; u++) {
            String now = "count(" + (10 + u) + ") ";
            String seen = "count(" + (20 + u) + ") ";
            int alone = 1 << u;
            run.check("member(" + u + ", 15, true) true\n" + now + (alone | 0x8000) + "\n" + seen + alone + "\nrefresh() 0\n" + seen
                + (alone | 0x8000) + "\nmember(15, 8, true) true\n"
                + now + (alone | 0x8100) + "\n" + seen + (alone | 0x8000) + "\nmember(" + u + ", 15, false) true\n" + now + alone + "\n"
                + seen + (alone | 0x8000) + "\nrefresh() 0\n" + seen + alone);
        }
    }
}
