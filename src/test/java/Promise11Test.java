/** Promise 11: refresh, at its bounds. */
public final class Promise11Test {
    public static void main(String[] args) {
        Run.all(Promise11Test.class);
    }

    static void nothingIsThere(Run run) {
        run.check("refresh() 0\ncount(3) 0\nrefresh() 0\n");
    }

    static void theBufferIsNotInIt(Run run) {
        run.check(Calls.documents(0, 40) + "refresh() 0\ncount(3) 0\nclause(0, 0, 0, 1.0) 1\nsearch(0, 8) 0\nvalue(0, 0, 0)" + Calls.GONE);
    }

    static void theDraftIsNotInIt(Run run) {
        run.check("rule(0, true) true\nrefresh() 0\nvalue(0, 0, 0)" + Calls.GONE);
    }

    static void allOf40Documents(Run run) {
        run.check(Calls.documents(0, 40) + "flush() 40\nrefresh() 40\nrefresh() 40\ncount(3) 1\n");
    }

    static void sixSegments(Run run) {
        run.check(Calls.segments(0, 6) + "refresh() 6\ncount(3) 6\n");
    }

    static void allAreRemoved(Run run) {
        run.check(Calls.documents(0, 3) + "flush() 3\n" + Calls.each(0, 3, "remove(#) -") + "refresh() 0\ncount(3) 1\nmerge() 3\n"
            + "count(3) 1\nrefresh() 0\ncount(3) 0\n");
    }

    static void allButOneAreRemoved(Run run) {
        run.check(Calls.segments(0, 3) + "remove(0) -\nremove(2) -\nrefresh() 1\ncount(3) 3\n");
    }

    static void documentsThatNobodyMayReadCount(Run run) {
        run.check("add(-1) 0\nadd(-1) 1\nflush() 2\nrefresh() 2\n");
    }

    static void withoutARefreshTheSnapshotStays(Run run) {
        run.check(Calls.documents(0, 1) + "flush() 1\nrefresh() 1\nclause(0, 0, 0, 1.0) 1\nmember(0, 8, true) true\nlevel(0, 0, 3) 0\n"
            + "level(1, 0, 1) 0\nremove(0) -\nmerge() 1\n" + Calls.segments(1, 3)
            + "count(3) 1\ncount(20) 1\nsearch(0, 8) 1\nvalue(0, 0, 0) 0\nrefresh() 2\ncount(3) 2\ncount(20) 257\nsearch(0, 8) 0\n"
            + "value(0, 0, 0)" + Calls.GONE + "value(0, 1, 0)" + Calls.VEILED);
    }

    static void theLatestSearchStays(Run run) {
        run.check(Calls.documents(0, 2) + "flush() 2\nrefresh() 2\nclause(0, 0, 0, 1.0) 1\nsearch(0, 8) 2\nremove(0) -\nrefresh() 1\n"
            + "hit(0) 0\nhit(1) 1\nscore(1) 1.0\ncount(4) 1\ncount(5) 2\n");
    }

    static void nothingNewDropsNoFilter(Run run) {
        run.check(Calls.segments(0, 5) + "refresh() 5\nsearch(0, 1) 0\ncount(8) 5\nrefresh() 5\ncount(8) 5\nsearch(0, 1) 0\ncount(6) 5\n"
            + "count(7) 5\n");
    }

    static void anotherMemberDropsAllFilters(Run run) {
        for (int m = 0; m < 16; m++) {
            String join = "member(" + m + ", " + (m == 8 ? 9 : 8) + ", ";
            run.check(Calls.segments(0, 2) + "refresh() 2\nsearch(0, 1) 0\n" + join + "true) true\ncount(8) 2\nrefresh() 2\ncount(8) 0\n"
                + "search(0, 1) 0\ncount(6) 4\n" + join + "false) true\ncount(8) 2\nrefresh() 2\ncount(8) 0\n");
        }
    }

    static void anotherLevelDropsAllFilters(Run run) {
        for (int field = 0; field < 3; field++) {
            run.check(Calls.segments(0, 2) + "refresh() 2\nsearch(0, 1) 0\nlevel(0, " + field + ", 1) 0\ncount(8) 2\nrefresh() 2\n"
                + "count(8) 0\n");
        }
    }

    static void anotherClearanceDropsAllFilters(Run run) {
        for (int u = 0; u < 8; u++) {
            run.check(Calls.segments(0, 2) + "refresh() 2\nsearch(0, 1) 0\nlevel(1, " + u + ", 1) 0\ncount(8) 2\nrefresh() 2\n"
                + "count(8) 0\n");
        }
    }

    static void whatIsAsItWasDropsNoFilter(Run run) {
        run.check(Calls.segments(0, 2) + "refresh() 2\nsearch(0, 1) 0\nmember(0, 8, true) true\nmember(0, 8, false) true\n"
            + "level(0, 0, 3) 0\nlevel(0, 0, 0) 3\nlevel(1, 0, 3) 0\nlevel(1, 0, 0) 3\nrefresh() 2\ncount(8) 2\n");
    }

    static void whatIsAsItWasTwoRefreshesAgoDropsAllFilters(Run run) {
        run.check(Calls.segments(0, 2) + "refresh() 2\nmember(0, 8, true) true\nrefresh() 2\nsearch(0, 1) 0\ncount(8) 2\n"
            + "member(0, 8, false) true\nrefresh() 2\ncount(8) 0\n");
    }

    static void filtersOfSegmentsThatAreGoneAreDropped(Run run) {
        run.check(Calls.segments(0, 2) + "refresh() 2\nsearch(0, 1) 0\ncount(8) 2\nmerge() 0\ncount(8) 2\nrefresh() 2\ncount(8) 0\n");
        run.check(Calls.documents(0, 1) + "flush() 1\nrefresh() 1\nsearch(0, 1) 0\nremove(0) -\nmerge() 1\ncount(8) 1\nrefresh() 0\n"
            + "count(8) 0\n");
    }

    static void filtersOfSegmentsThatStayAreKept(Run run) {
        run.check(Calls.segments(0, 4) + "refresh() 4\nsearch(0, 1) 0\nremove(0) -\n" + Calls.segments(4, 6) + "refresh() 5\ncount(8) 4\n");
    }
}
