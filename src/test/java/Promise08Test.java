/** Promise 8: remove, at its bounds. */
public final class Promise08Test {
    public static void main(String[] args) {
        Run.all(Promise08Test.class);
    }

    static void noIdAtAll(Run run) {
        run.check("remove(-1)" + Calls.GONE + "remove(0)" + Calls.GONE);
    }

    static void anIdThatThereIs(Run run) {
        run.check(Calls.documents(0, 3) + "remove(-1)" + Calls.GONE + "remove(3)" + Calls.GONE + "remove(0) -\nremove(2) -\ncount(1) 1\n");
    }

    static void theLastOf40(Run run) {
        run.check(Calls.documents(0, 40) + "remove(40)" + Calls.GONE + "remove(39) -\nremove(0) -\ncount(1) 38\nflush() 38\n");
    }

    static void numbersDoNotWrapAround(Run run) {
        run.check(Calls.documents(0, 1) + "remove(64)" + Calls.GONE + "remove(-64)" + Calls.GONE + "remove(32)" + Calls.GONE
            + "remove(2147483647)" + Calls.GONE + "remove(-2147483648)" + Calls.GONE + "count(1) 1\n");
    }

    static void twiceOutOfTheBuffer(Run run) {
        run.check(Calls.documents(0, 1) + "remove(0) -\nremove(0)" + Calls.GONE + "count(1) 0\nflush() 0\nremove(0)" + Calls.GONE);
    }

    static void twiceInASegment(Run run) {
        run.check(Calls.documents(0, 1) + "flush() 1\nremove(0) -\nremove(0)" + Calls.GONE + "count(2) 1\n");
    }

    static void twiceWithAMergeBetween(Run run) {
        run.check(Calls.documents(0, 2) + "flush() 2\nremove(0) -\nmerge() 1\nremove(0)" + Calls.GONE + "remove(1) -\nmerge() 1\nremove(1)"
            + Calls.GONE);
    }

    static void twiceWithARefreshBetween(Run run) {
        run.check(Calls.documents(0, 1) + "flush() 1\nrefresh() 1\nremove(0) -\nremove(0)" + Calls.GONE + "refresh() 0\nremove(0)"
            + Calls.GONE);
    }

    static void allOutOfTheBuffer(Run run) {
        run.check(Calls.documents(0, 40) + Calls.each(0, 40, "remove(#) -") + "count(1) 0\ncount(0) 40\nflush() 0\ncount(2) 0\n"
            + "refresh() 0\n");
    }

    static void allInASegment(Run run) {
        run.check(Calls.documents(0, 5) + "flush() 5\n" + Calls.each(0, 5, "remove(#) -") + "count(2) 1\nrefresh() 0\ncount(3) 1\n"
            + "clause(0, 0, 0, 1.0) 1\nsearch(0, 8) 0\ncount(4) 2\ncount(5) 0\n");
    }

    static void theBufferKeepsTheOthers(Run run) {
        run.check(Calls.documents(0, 4) + "remove(1) -\nflush() 3\nrefresh() 3\nclause(0, 0, 0, 1.0) 1\nsearch(0, 8) 3\nhit(0) 0\n"
            + "hit(1) 2\nhit(2) 3\n");
    }

    static void theSnapshotDoesNotKnowItBeforeTheNextRefresh(Run run) {
        run.check(Calls.documents(0, 1) + "flush() 1\nrefresh() 1\nremove(0) -\nvalue(0, 0, 0) 0\nclause(0, 0, 0, 1.0) 1\nsearch(0, 1) 1\n"
            + "refresh() 0\nsearch(0, 1) 0\nvalue(0, 0, 0)" + Calls.GONE);
    }

    static void aRefusedCallRemovesNothing(Run run) {
        run.check(Calls.documents(0, 2) + "remove(2)" + Calls.GONE + "remove(-1)" + Calls.GONE + Calls.documents(2, 3) + "count(1) 3\n"
            + "flush() 3\nrefresh() 3\nremove(2) -\n");
    }
}
