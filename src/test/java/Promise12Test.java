/** Promise 12: clause, at its bounds. */
public final class Promise12Test {
    private static final String SIX = Calls.each(1, 7, "clause(0, 0, 0, 1.0) #");

    public static void main(String[] args) {
        Run.all(Promise12Test.class);
    }

    static void aSortIs0To2(Run run) {
        run.check("clause(-1, 0, 0, 1.0)" + Calls.WRONG);
        run.check("clause(0, 0, 0, 1.0) 1\n");
        run.check("clause(2, 0, 0, 1.0) 1\n");
        run.check("clause(3, 0, 0, 1.0)" + Calls.WRONG);
    }

    static void aTermIs0To7(Run run) {
        run.check("clause(0, -1, 0, 1.0)" + Calls.WRONG);
        run.check("clause(0, 0, 0, 1.0) 1\n");
        run.check("clause(0, 7, 0, 1.0) 1\n");
        run.check("clause(0, 8, 0, 1.0)" + Calls.WRONG);
    }

    static void aFieldIs0To2(Run run) {
        run.check("clause(0, 0, -1, 1.0)" + Calls.WRONG);
        run.check("clause(0, 0, 0, 1.0) 1\n");
        run.check("clause(0, 0, 2, 1.0) 1\n");
        run.check("clause(0, 0, 3, 1.0)" + Calls.WRONG);
    }

    static void theTermStandsBeforeTheField(Run run) {
        run.check("clause(0, 7, 2, 1.0) 1\nclause(0, 2, 7, 1.0)" + Calls.WRONG + "clause(0, 3, 2, 1.0) 2\nclause(0, 2, 3, 1.0)"
            + Calls.WRONG);
    }

    static void aWeightIsNotBelow0(Run run) {
        eachSort(run, "0.0", " 1\n");
        eachSort(run, "-0.0", " 1\n");
        eachSort(run, "" + -Double.MIN_VALUE, Calls.WRONG);
        eachSort(run, "-1.0", Calls.WRONG);
        eachSort(run, "-Infinity", Calls.WRONG);
    }

    static void aWeightIsNotAbove1000(Run run) {
        eachSort(run, "1000.0", " 1\n");
        eachSort(run, "" + Math.nextUp(1000.0), Calls.WRONG);
        eachSort(run, "Infinity", Calls.WRONG);
    }

    static void aWeightAbove0IsNotBelow1e30th(Run run) {
        eachSort(run, "1e-30", " 1\n");
        eachSort(run, "" + Math.nextDown(1e-30), Calls.WRONG);
        eachSort(run, "" + Double.MIN_VALUE, Calls.WRONG);
    }

    static void notANumberIsNoWeight(Run run) {
        eachSort(run, "NaN", Calls.WRONG);
    }

    static void numbersDoNotWrapAround(Run run) {
        run.check("clause(-2147483648, 0, 0, 1.0)" + Calls.WRONG + "clause(2147483647, 0, 0, 1.0)" + Calls.WRONG
            + "clause(0, -2147483648, 0, 1.0)" + Calls.WRONG + "clause(0, 2147483647, 0, 1.0)" + Calls.WRONG
            + "clause(0, 0, -2147483648, 1.0)" + Calls.WRONG + "clause(0, 0, 2147483647, 1.0)" + Calls.WRONG
            + "clause(0, -8, 1, 1.0)" + Calls.WRONG + "clause(0, 8, -1, 1.0)" + Calls.WRONG + "clause(0, 0, 0, 1.0) 1\n");
    }

    static void theSixthIsTheLast(Run run) {
        run.check(SIX + "clause(0, 0, 0, 1.0)" + Calls.FULL + "clause(1, 7, 2, 0.0)" + Calls.FULL + "clear() 6\n");
    }

    /** Both are not as said; the arguments are looked at first. */
    static void with6AWrongOneIsStillWrong(Run run) {
        run.check(SIX + "clause(3, 0, 0, 1.0)" + Calls.WRONG + "clause(0, 8, 0, 1.0)" + Calls.WRONG + "clause(0, 0, 3, 1.0)" + Calls.WRONG
            + "clause(0, 0, 0, -1.0)" + Calls.WRONG + "clear() 6\n");
    }

    static void sixOfEachSortCountTogether(Run run) {
        run.check("clause(0, 0, 0, 1.0) 1\nclause(1, 0, 0, 1.0) 2\nclause(2, 0, 0, 1.0) 3\nclause(0, 0, 0, 1.0) 4\nclause(1, 0, 0, 1.0) 5\n"
            + "clause(2, 0, 0, 1.0) 6\nclause(2, 0, 0, 1.0)" + Calls.FULL);
    }

    static void sixMoreBehindAClear(Run run) {
        run.check(SIX + "clear() 6\n" + SIX + "clause(0, 0, 0, 1.0)" + Calls.FULL);
    }

    static void theSeventhIsNotSearched(Run run) {
        run.check(Calls.documents(0, 1) + "flush() 1\nrefresh() 1\n" + SIX + "clause(0, 0, 0, 1.0)" + Calls.FULL + "clause(2, 0, 0, 1.0)"
            + Calls.FULL + "search(0, 1) 1\nscore(0) 6.0\n");
    }

    static void aRefusedCallAddsNone(Run run) {
        run.check(Calls.documents(0, 1) + "flush() 1\nrefresh() 1\nclause(0, 0, 0, 1.0) 1\nclause(2, 0, 0, 1001.0)" + Calls.WRONG
            + "clause(2, 0, 0, NaN)" + Calls.WRONG + "clause(3, 0, 0, 1.0)" + Calls.WRONG
            + "search(0, 1) 1\nscore(0) 1.0\nclear() 1\n");
    }

    private static void eachSort(Run run, String weight, String answer) {
        for (int sort = 0; sort < 3; sort++) {
            run.check("clause(" + sort + ", 0, 0, " + weight + ")" + answer);
        }
    }
}
