/** Promise 14: search, at its bounds; BlocksTest and FiltersTest have more of how it goes. */
public final class Promise14Test {
    private static final String SEEN = "flush() 1\nrefresh() 1\n";
    private static final String SCORES = "clause(0, 0, 0, 1.0) 1\n";

    public static void main(String[] args) {
        Run.all(Promise14Test.class);
    }

    static void uIs0To7(Run run) {
        run.check("search(-1, 1)" + Calls.WRONG);
        run.check("search(0, 1) 0\n");
        run.check("search(7, 1) 0\n");
        run.check("search(8, 1)" + Calls.WRONG);
    }

    static void kIs1To8(Run run) {
        run.check("search(0, 0)" + Calls.WRONG);
        run.check("search(0, 1) 0\n");
        run.check("search(0, 8) 0\n");
        run.check("search(0, 9)" + Calls.WRONG);
        run.check("search(0, -1)" + Calls.WRONG);
    }

    static void numbersDoNotWrapAround(Run run) {
        run.check("search(-2147483648, 1)" + Calls.WRONG + "search(2147483647, 1)" + Calls.WRONG + "search(32, 1)" + Calls.WRONG
            + "search(0, -2147483648)" + Calls.WRONG + "search(0, 2147483647)" + Calls.WRONG + "search(0, 257)" + Calls.WRONG);
    }

    static void aRefusedSearchLeavesTheLatestOne(Run run) {
        run.check(Calls.documents(0, 2) + "flush() 2\nrefresh() 2\n" + SCORES + "search(0, 8) 2\nsearch(8, 8)" + Calls.WRONG
            + "search(0, 9)" + Calls.WRONG + "search(0, 0)" + Calls.WRONG
            + "hit(1) 1\nscore(1) 1.0\ncount(4) 1\ncount(5) 2\ncount(6) 1\ncount(7) 0\n");
    }

    static void noSegmentInTheSnapshot(Run run) {
        run.check(SCORES + "search(0, 8) 0\ncount(4) 0\ncount(5) 0\ncount(6) 0\ncount(8) 0\n");
        run.check(SCORES + Calls.documents(0, 1) + "flush() 1\nsearch(0, 8) 0\ncount(4) 0\ncount(6) 0\n");
    }

    static void aQueryWithoutAnyClause(Run run) {
        run.check(Calls.documents(0, 1) + SEEN + "search(0, 8) 0\ncount(4) 1\ncount(5) 0\ncount(6) 1\n");
    }

    static void aQueryWithoutAnyScores(Run run) {
        run.check(Calls.documents(0, 1) + SEEN + "clause(1, 0, 0, 1.0) 1\nclause(2, 1, 0, 1.0) 2\nsearch(0, 8) 0\ncount(4) 1\n"
            + "count(5) 0\n");
    }

    static void theBufferIsNotSearched(Run run) {
        run.check(Calls.documents(0, 1) + SEEN + Calls.documents(1, 2) + SCORES + "refresh() 1\nsearch(0, 8) 1\nhit(0) 0\n");
    }

    static void aRemovedDocumentIsNotFound(Run run) {
        run.check(Calls.documents(0, 2) + "flush() 2\nremove(0) -\nrefresh() 1\n" + SCORES + "search(0, 8) 1\nhit(0) 1\ncount(5) 1\n");
    }

    static void aDocumentThatMayNotBeReadIsNotFound(Run run) {
        run.check(Calls.documents(0, 1) + SEEN + SCORES + "search(0, 8) 1\n" + Calls.each(1, 8, "search(#, 8) 0\ncount(4) 1\ncount(5) 0"));
    }

    static void aMustNeedsACodeAbove0(Run run) {
        run.check("weigh(0, 1, 0.03125) 1\n" + Calls.documents(0, 1) + SEEN + SCORES + "clause(1, 1, 0, 1.0) 2\nsearch(0, 8) 1\n");
        run.check("weigh(0, 1, 0.03) 0\n" + Calls.documents(0, 1) + SEEN + SCORES + "clause(1, 1, 0, 1.0) 2\nsearch(0, 8) 0\n");
    }

    static void eachMustIsNeeded(Run run) {
        for (int without = 0; without < 6; without++) {
            run.check(fiveTermsBut(without) + fiveClauses(1) + "search(0, 8) " + (without == 0 ? 1 : 0));
        }
    }

    static void aNotNeedsNoCodeAbove0(Run run) {
        run.check("weigh(0, 1, 0.03) 0\n" + Calls.documents(0, 1) + SEEN + SCORES + "clause(2, 1, 0, 1.0) 2\nsearch(0, 8) 1\n");
        run.check("weigh(0, 1, 0.03125) 1\n" + Calls.documents(0, 1) + SEEN + SCORES + "clause(2, 1, 0, 1.0) 2\nsearch(0, 8) 0\n");
    }

    static void eachNotIsOneTooMany(Run run) {
        for (int with = 0; with < 6; with++) {
            String code = with == 0 ? "" : "weigh(0, " + with + ", 1.0) 16\n";
            run.check(code + Calls.documents(0, 1) + SEEN + fiveClauses(2) + "search(0, 8) " + (with == 0 ? 1 : 0));
        }
    }

    static void someScoresIsEnough(Run run) {
        for (int with = 0; with < 6; with++) {
            String code = with == 0 ? "" : "weigh(0, " + with + ", 0.03125) 1\n";
            run.check("rule(0, true) true\n" + code + "add(-1) 0\n" + SEEN + fiveClauses(0) + "search(0, 8) " + (with == 0 ? 0 : 1));
        }
    }

    static void clausesStayWhatTheyAreInAnyOrder(Run run) {
        String[] clauses = {"clause(0, 0, 0, 1.0) ", "clause(1, 1, 1, 1.0) ", "clause(2, 2, 2, 1.0) "};
        int[][] orders = {{0, 1, 2}, {0, 2, 1}, {1, 0, 2}, {1, 2, 0}, {2, 0, 1}, {2, 1, 0}};
        for (int[] order : orders) {
            String query = clauses[order[0]] + "1\n" + clauses[order[1]] + "2\n" + clauses[order[2]] + "3\n";
            run.check("weigh(1, 1, 1.0) 16\n" + Calls.documents(0, 1) + SEEN + query + "search(0, 8) 1\nscore(0) 1.0\n");
            run.check("weigh(1, 1, 1.0) 16\nweigh(2, 2, 1.0) 16\n" + Calls.documents(0, 1) + SEEN + query + "search(0, 8) 0\n");
            run.check("weigh(2, 1, 1.0) 16\nweigh(1, 2, 1.0) 16\n" + Calls.documents(0, 1) + SEEN + query + "search(0, 8) 0\n");
        }
    }

    static void aScoresOfAFieldThatIsNotOpenIsLeftOut(Run run) {
        eachRank(run, "rule(0, true) true\nweigh(1, 0, 1.0) 16\nadd(-1) 0\n", "clause(0, 0, 1, 1.0) 1\n", 1, 0);
    }

    static void aNotOfAFieldThatIsNotOpenIsLeftOut(Run run) {
        eachRank(run, "weigh(1, 0, 1.0) 16\n" + Calls.documents(0, 1), SCORES + "clause(2, 0, 1, 1.0) 2\n", 0, 1);
    }

    static void withAMustOfAFieldThatIsNotOpenNothingIsFound(Run run) {
        eachRank(run, "weigh(1, 0, 1.0) 16\n" + Calls.documents(0, 1), SCORES + "clause(1, 0, 1, 1.0) 2\n", 1, 0);
    }

    static void withAMustOfAFieldThatIsNotOpenBlocksAreStillLookedAt(Run run) {
        run.check(Calls.documents(0, 5) + "flush() 5\nlevel(0, 1, 1) 0\nrefresh() 5\n" + SCORES + "clause(1, 0, 1, 1.0) 2\nsearch(0, 1) 0\n"
            + "count(4) 2\ncount(5) 0\ncount(6) 1\n");
    }

    static void aMustIsVeiledForOneSearchAlone(Run run) {
        run.check("weigh(1, 0, 1.0) 16\nrule(1, true) true\n" + Calls.documents(0, 1) + "level(0, 1, 1) 0\nlevel(1, 1, 1) 0\n" + SEEN
            + SCORES + "clause(1, 0, 1, 1.0) 2\nsearch(0, 1) 0\nsearch(1, 1) 1\nsearch(0, 1) 0\n"
            + "clear() 2\n" + SCORES + "search(0, 1) 1\n");
    }

    static void oneOpenMustDoesNotOpenAnother(Run run) {
        String both = "weigh(1, 0, 1.0) 16\nweigh(2, 0, 1.0) 16\n" + Calls.documents(0, 1) + "flush() 1\nlevel(0, 1, 1) 0\nrefresh() 1\n"
            + SCORES;
        run.check(both + "clause(1, 0, 1, 1.0) 2\nclause(1, 0, 2, 1.0) 3\nsearch(0, 1) 0\n");
        run.check(both + "clause(1, 0, 2, 1.0) 2\nclause(1, 0, 1, 1.0) 3\nsearch(0, 1) 0\n");
    }

    static void fewerThanKOrKOrMoreAreFound(Run run) {
        for (int k = 1; k <= 8; k++) {
            for (int n = 1; n <= 9; n++) {
                int size = Math.min(n, k);
                run.check(Calls.documents(0, n) + "flush() " + n + "\nrefresh() " + n + "\n" + SCORES + "search(0, " + k + ") " + size
                    + "\n"
                    + Calls.each(0, size, "hit(#) #") + "hit(" + size + ")" + Calls.NO_HIT);
            }
        }
    }

    static void theLastHitGoesWhereABetterOneComes(Run run) {
        run.check(Calls.document(0, 1) + Calls.document(1, 3) + Calls.document(2, 2) + Calls.document(3, 4) + "flush() 4\nrefresh() 4\n"
            + SCORES
            + "search(0, 1) 1\nhit(0) 3\ncount(5) 4\nsearch(0, 2) 2\nhit(0) 3\nhit(1) 1\nsearch(0, 3) 3\nhit(2) 2\nsearch(0, 4) 4\n"
            + "hit(3) 0\n");
    }

    static void withKHitsEachBetterOneComesFirst(Run run) {
        StringBuilder rising = new StringBuilder();
        for (int id = 0; id < 12; id++) {
            rising.append(Calls.document(id, id + 1));
        }
        for (int k = 1; k <= 8; k++) {
            run.check(rising + "flush() 12\nrefresh() 12\n" + SCORES + "search(0, " + k + ") " + k + "\nhit(0) 11\nscore(0) 12.0\nhit("
                + (k - 1) + ") " + (12 - k) + "\nscore(" + (k - 1) + ") " + (13.0 - k) + "\ncount(5) 12\n");
        }
    }

    static void ofEqualScoresTheGreatestIdGoes(Run run) {
        run.check(Calls.document(0, 1) + Calls.document(1, 1) + Calls.document(2, 2) + Calls.document(3, 1) + "flush() 4\nrefresh() 4\n"
            + SCORES
            + "search(0, 1) 1\nhit(0) 2\nsearch(0, 2) 2\nhit(0) 2\nhit(1) 0\nsearch(0, 3) 3\nhit(1) 0\nhit(2) 1\n");
    }

    static void aFifthDocumentIsInANextBlock(Run run) {
        run.check(Calls.documents(0, 4) + "flush() 4\nrefresh() 4\n" + SCORES + "search(0, 8) 4\ncount(4) 1\n");
        run.check(Calls.documents(0, 5) + "flush() 5\nrefresh() 5\n" + SCORES + "search(0, 8) 5\ncount(4) 2\nsearch(0, 4) 4\ncount(4) 1\n"
            + "search(0, 5) 5\ncount(4) 2\n");
    }

    static void aBlockDoesNotReachIntoTheNextSegment(Run run) {
        run.check(Calls.documents(0, 3) + "flush() 3\n" + Calls.documents(3, 4) + "flush() 1\nrefresh() 4\n" + SCORES + "search(0, 8) 4\n"
            + "count(4) 2\nsearch(0, 3) 3\ncount(4) 1\n");
    }

    static void aBoundAsTheLastHitsScoreIsNotAbove(Run run) {
        run.check(twoBlocks(2.0, 2.0) + "search(0, 1) 1\nhit(0) 0\ncount(4) 1\n");
        run.check(twoBlocks(2.0, 1.9375) + "search(0, 1) 1\nhit(0) 0\ncount(4) 1\n");
        run.check(twoBlocks(2.0, 2.0625) + "search(0, 1) 1\nhit(0) 4\ncount(4) 2\n");
    }

    static void theGreatestCodeMayBeAtAnyPlaceOfABlock(Run run) {
        for (int best = 4; best < 8; best++) {
            StringBuilder calls = new StringBuilder();
            for (int id = 0; id < 8; id++) {
                calls.append(Calls.document(id, id < 4 ? 2.0 : id == best ? 3.0 : 1.0));
            }
            run.check(calls + "flush() 8\nrefresh() 8\n" + SCORES + "search(0, 1) 1\nhit(0) " + best + "\ncount(4) 2\n");
        }
    }

    static void aBoundTakesEachTermFromAnotherDocument(Run run) {
        String two = "rule(0, true) true\nweigh(0, 0, 1.0) 16\nadd(-1) 4\nrule(0, true) true\nweigh(2, 7, 1.5) 24\nadd(-1) 5\nflush() 6\n"
            + "refresh() 6\n" + SCORES + "clause(0, 7, 2, 1.0) 2\n";
        String four = Calls.each(0, 4, "rule(0, true) true\nweigh(0, 0, 2.4375) 39\nadd(-1) #");
        run.check(four + two + "search(0, 1) 1\nhit(0) 0\ncount(4) 2\ncount(5) 6\n");
        run.check(four.replace("2.4375) 39", "2.5) 40") + two + "search(0, 1) 1\nhit(0) 0\ncount(4) 1\ncount(5) 4\n");
    }

    static void aBoundOf0IsNotAbove0(Run run) {
        run.check(Calls.documents(0, 5) + "flush() 5\nrefresh() 5\nclause(0, 0, 0, 0.0) 1\nsearch(0, 4) 4\nscore(3) 0.0\ncount(4) 1\n"
            + "search(0, 5) 5\ncount(4) 2\n");
    }

    static void withoutKHitsABlockWithABoundOf0IsLookedAt(Run run) {
        run.check(Calls.documents(0, 4) + Calls.each(4, 8, "rule(0, true) true\nadd(-1) #") + "flush() 8\nrefresh() 8\n" + SCORES
            + "search(0, 5) 4\ncount(4) 2\nsearch(0, 4) 4\ncount(4) 1\n");
    }

    static void aBoundHasDocumentsThatAreRemovedOrMayNotBeRead(Run run) {
        run.check(Calls.documents(0, 4) + Calls.document(4, 2) + "flush() 5\nremove(4) -\nrefresh() 4\n" + SCORES + "search(0, 1) 1\n"
            + "hit(0) 0\ncount(4) 2\ncount(5) 4\n");
        run.check(Calls.documents(0, 4) + "rule(1, true) true\nweigh(0, 0, 2.0) 32\nadd(-1) 4\nflush() 5\nrefresh() 5\n" + SCORES
            + "search(0, 1) 1\nhit(0) 0\ncount(4) 2\ncount(5) 4\n");
    }

    static void theFifthFilterIsTheLastThatPushesNoneOut(Run run) {
        run.check(Calls.segments(0, 5) + "refresh() 5\nsearch(0, 1) 0\ncount(8) 5\nsearch(0, 1) 0\ncount(6) 5\ncount(7) 5\ncount(8) 5\n");
        run.check(Calls.segments(0, 6) + "refresh() 6\nsearch(0, 1) 0\ncount(8) 5\nsearch(0, 1) 0\ncount(6) 12\ncount(7) 0\ncount(8) 5\n");
    }

    static void theFilterThatWasUsedTheLongestAgoGoes(Run run) {
        String five = Calls.documents(0, 1) + SEEN + Calls.each(0, 5, "search(#, 1) 0");
        run.check(five + "search(5, 1) 0\ncount(8) 5\n" + Calls.each(1, 6, "search(#, 1) 0") + "count(7) 5\nsearch(0, 1) 0\ncount(6) 7\n"
            + "count(7) 5\n");
        run.check(five + "search(0, 1) 0\ncount(7) 1\nsearch(5, 1) 0\nsearch(0, 1) 0\ncount(7) 2\nsearch(1, 1) 0\ncount(6) 7\n"
            + "count(7) 2\n");
    }

    /** Users 0 to 5 read the documents of their own number; what a filter lets through shows whose it is. */
    static void theOtherFiltersStayWhatTheyWere(Run run) {
        String six = Calls.each(0, 6, "rule(#, true) true\nweigh(0, 0, 1.0) 16\nadd(-1) #") + "flush() 6\nrefresh() 6\n" + SCORES;
        run.check(six + Calls.each(0, 6, "search(#, 8) 1\nhit(0) #") + Calls.each(1, 6, "search(#, 8) 1\nhit(0) #") + "count(6) 6\n"
            + "count(7) 5\n"
            + "search(3, 8) 1\nhit(0) 3\nsearch(1, 8) 1\nhit(0) 1\nsearch(0, 8) 1\nhit(0) 0\nsearch(4, 8) 1\nhit(0) 4\ncount(6) 7\n"
            + "count(7) 8\n");
    }

    static void aFilterIsMadeAlsoWhereNoBlockIsLookedAt(Run run) {
        run.check(Calls.document(0, 2) + "flush() 1\n" + Calls.document(1, 1) + "flush() 1\nrefresh() 2\n" + SCORES + "search(0, 1) 1\n"
            + "count(4) 1\ncount(6) 2\nsearch(0, 1) 1\ncount(7) 2\n");
    }

    /** A document with terms 0 to 5, but for one of them. */
    private static String fiveTermsBut(int without) {
        String draft = "rule(0, true) true\n" + Calls.each(0, 6, "weigh(0, #, 1.0) 16");
        return draft + (without == 0 ? "" : "weigh(0, " + without + ", 0.0) 0\n") + "add(-1) 0\n" + SEEN;
    }

    /** Terms 1 to 5 as clauses of a sort, behind a SCORES for term 0. */
    private static String fiveClauses(int sort) {
        StringBuilder calls = new StringBuilder(SCORES);
        for (int term = 1; term < 6; term++) {
            calls.append("clause(").append(sort).append(", ").append(term).append(", 0, 1.0) ").append(term + 1).append('\n');
        }
        return calls.toString();
    }

    /** Four documents of the first weight and one of the second, in two blocks. */
    private static String twoBlocks(double first, double second) {
        StringBuilder calls = new StringBuilder();
        for (int id = 0; id < 4; id++) {
            calls.append(Calls.document(id, first));
        }
        return calls + Calls.document(4, second) + "flush() 5\nrefresh() 5\n" + SCORES;
    }

    /** Searches with each level of field 1 and each clearance of user 0. */
    private static void eachRank(Run run, String document, String clauses, int whereOpen, int whereVeiled) {
        for (int level = 0; level < 4; level++) {
            for (int clearance = 0; clearance < 4; clearance++) {
                run.check(document + "level(0, 1, " + level + ") 0\nlevel(1, 0, " + clearance + ") 0\n" + SEEN + clauses
                    + "search(0, 8) " + (clearance < level ? whereVeiled : whereOpen));
            }
        }
    }
}
