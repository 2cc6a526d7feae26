/** Promise 13: clear, at its bounds. */
public final class Promise13Test {
    public static void main(String[] args) {
        Run.all(Promise13Test.class);
    }

    static void noClause(Run run) {
        run.check("clear() 0\nclear() 0\n");
    }

    static void oneToSixClauses(Run run) {
        for (int n = 1; n <= 6; n++) {
            run.check(Calls.each(1, n + 1, "clause(0, 0, 0, 1.0) #") + "clear() " + n + "\nclear() 0\nclause(0, 0, 0, 1.0) 1\n");
        }
    }

    static void refusedClausesDoNotCount(Run run) {
        run.check("clause(3, 0, 0, 1.0)" + Calls.WRONG + "clear() 0\n" + Calls.each(1, 7, "clause(0, 0, 0, 1.0) #") + "clause(0, 0, 0, 1.0)"
            + Calls.FULL + "clear() 6\n");
    }

    static void aClearedQueryFindsNothing(Run run) {
        run.check(Calls.documents(0, 1) + "flush() 1\nrefresh() 1\nclause(0, 0, 0, 1.0) 1\nsearch(0, 1) 1\nclear() 1\nsearch(0, 1) 0\n");
    }

    static void clearedClausesAreGone(Run run) {
        run.check(Calls.documents(0, 1) + "flush() 1\nlevel(0, 1, 1) 0\nrefresh() 1\nclause(1, 5, 0, 1.0) 1\nclause(2, 0, 0, 1.0) 2\n"
            + "clause(1, 0, 1, 1.0) 3\nclear() 3\nclause(0, 0, 0, 1.0) 1\nsearch(0, 1) 1\nscore(0) 1.0\n");
    }

    static void theLatestSearchStays(Run run) {
        run.check(Calls.documents(0, 1) + "flush() 1\nrefresh() 1\nclause(0, 0, 0, 2.0) 1\nsearch(0, 1) 1\nclear() 1\nhit(0) 0\n"
            + "score(0) 2.0\ncount(4) 1\ncount(5) 1\n");
    }
}
