/** Promise 16: score, at its bounds. */
public final class Promise16Test {
    private static final String ONE = "flush() 1\nrefresh() 1\n";
    private static final double SMALL_FIRST = 3e-5f + 3e-5f + 1000f;
    private static final double SMALL_LAST = 1000f + 3e-5f + 3e-5f;

    public static void main(String[] args) {
        Run.all(Promise16Test.class);
    }

    static void beforeAnySearchThereIsNone(Run run) {
        run.check("score(-1)" + Calls.NO_HIT + "score(0)" + Calls.NO_HIT + "score(1)" + Calls.NO_HIT);
    }

    static void aSearchThatFoundNothingHasNone(Run run) {
        run.check("search(0, 8) 0\nscore(-1)" + Calls.NO_HIT + "score(0)" + Calls.NO_HIT);
    }

    static void iIs0ToTheLastHit(Run run) {
        for (int n = 1; n <= 8; n++) {
            run.check(Calls.documents(0, n) + "flush() " + n + "\nrefresh() " + n + "\nclause(0, 0, 0, 1.0) 1\nsearch(0, 8) " + n + "\n"
                + "score(-1)" + Calls.NO_HIT
                + "score(0) 1.0\nscore(" + (n - 1) + ") 1.0\nscore(" + n + ")" + Calls.NO_HIT);
        }
    }

    static void noHitBehindK(Run run) {
        for (int k = 1; k <= 8; k++) {
            run.check(Calls.documents(0, 9) + "flush() 9\nrefresh() 9\nclause(0, 0, 0, 1.0) 1\nsearch(0, " + k + ") " + k + "\nscore("
                + (k - 1) + ") 1.0\nscore(" + k + ")" + Calls.NO_HIT);
        }
    }

    static void numbersDoNotWrapAround(Run run) {
        run.check(Calls.documents(0, 1) + ONE + "clause(0, 0, 0, 1.0) 1\nsearch(0, 8) 1\nscore(2147483647)" + Calls.NO_HIT
            + "score(-2147483648)" + Calls.NO_HIT
            + "score(8)" + Calls.NO_HIT + "score(-8)" + Calls.NO_HIT + "score(256)" + Calls.NO_HIT);
    }

    static void theLatestSearchAlone(Run run) {
        run.check(Calls.document(0, 2) + Calls.document(1, 1) + "flush() 2\nrefresh() 2\nclause(0, 0, 0, 1.0) 1\nsearch(0, 8) 2\n"
            + "score(1) 1.0\nsearch(0, 1) 1\nscore(0) 2.0\nscore(1)" + Calls.NO_HIT
            + "search(1, 8) 0\nscore(0)" + Calls.NO_HIT);
    }

    static void eachCodeIsWorthASixteenthOfIt(Run run) {
        for (int c = 1; c <= 255; c++) {
            run.check(Calls.document(0, c / 16.0) + ONE + "clause(0, 0, 0, 1.0) 1\nsearch(0, 1) 1\nscore(0) " + c / 16.0);
        }
    }

    static void theLeastScoreAbove0(Run run) {
        run.check(Calls.document(0, 0.0625) + ONE + "clause(0, 0, 0, 1e-30) 1\nsearch(0, 1) 1\nscore(0) "
            + (double) ((float) 1e-30 * (1 / 16f)));
    }

    static void theGreatestScore(Run run) {
        run.check(Calls.document(0, 15.9375) + ONE + Calls.each(1, 7, "clause(0, 0, 0, 1000.0) #") + "search(0, 1) 1\nscore(0) 95625.0\n");
    }

    static void aWeightOf0ScoresNothing(Run run) {
        run.check(Calls.document(0, 15.9375) + ONE + "clause(0, 0, 0, 0.0) 1\nclause(0, 0, 0, -0.0) 2\nsearch(0, 1) 1\nscore(0) 0.0\n");
    }

    static void mustAndNotScoreNothing(Run run) {
        run.check(Calls.document(0, 1) + ONE + "clause(1, 0, 0, 1000.0) 1\nclause(0, 0, 0, 1.0) 2\nclause(2, 1, 0, 1000.0) 3\n"
            + "search(0, 1) 1\nscore(0) 1.0\n");
    }

    static void aTermWithoutACodeScoresNothing(Run run) {
        run.check(Calls.document(0, 1) + ONE + "clause(0, 0, 0, 1.0) 1\nclause(0, 1, 0, 1000.0) 2\nclause(0, 0, 1, 1000.0) 3\n"
            + "search(0, 1) 1\nscore(0) 1.0\n");
    }

    static void aWeightIsAFloat(Run run) {
        run.check(Calls.document(0, 1) + ONE + "clause(0, 0, 0, 0.1) 1\nsearch(0, 1) 1\nscore(0) " + (double) 0.1f);
    }

    static void sumsAreFloatsByRisingTerms(Run run) {
        eachOrder(run, new String[] {"0, 2", "1, 1", "2, 0"});
    }

    static void thenByRisingFields(Run run) {
        eachOrder(run, new String[] {"4, 0", "4, 1", "4, 2"});
    }

    static void thenAsTheyCame(Run run) {
        String calls = "rule(0, true) true\nweigh(0, 0, 1.0) 16\nadd(-1) 0\n" + ONE;
        run.check(calls + "clause(0, 0, 0, 3e-5) 1\nclause(0, 0, 0, 3e-5) 2\nclause(0, 0, 0, 1000.0) 3\nsearch(0, 1) 1\nscore(0) "
            + SMALL_FIRST);
        run.check(calls + "clause(0, 0, 0, 1000.0) 1\nclause(0, 0, 0, 3e-5) 2\nclause(0, 0, 0, 3e-5) 3\nsearch(0, 1) 1\nscore(0) "
            + SMALL_LAST);
    }

    static void theOrderCanBeSeen(Run run) {
        run.due("whether the two sums differ", "" + (SMALL_FIRST != SMALL_LAST), "true");
    }

    /**
     * Three clauses in each order of coming, which must not matter: the greatest weight stands for the last place once, and once for the
     * first.
     */
    private static void eachOrder(Run run, String[] places) {
        StringBuilder codes = new StringBuilder("rule(0, true) true\n");
        for (String place : places) {
            codes.append("weigh(").append(place.charAt(3)).append(", ").append(place.charAt(0)).append(", 1.0) 16\n");
        }
        String document = codes + "add(-1) 0\n" + ONE;
        int[][] orders = {{0, 1, 2}, {0, 2, 1}, {1, 0, 2}, {1, 2, 0}, {2, 0, 1}, {2, 1, 0}};
        for (int[] order : orders) {
            run.check(document + clauses(places, order, 2) + "search(0, 1) 1\nscore(0) " + SMALL_FIRST);
            run.check(document + clauses(places, order, 0) + "search(0, 1) 1\nscore(0) " + SMALL_LAST);
        }
    }

    private static String clauses(String[] places, int[] order, int greatest) {
        StringBuilder calls = new StringBuilder();
        for (int i = 0; i < 3; i++) {
            calls.append("clause(0, ").append(places[order[i]]).append(", ").append(order[i] == greatest ? 1000.0 : 3e-5).append(") ").append(i + 1).append('\n');
        }
        return calls.toString();
    }
}
