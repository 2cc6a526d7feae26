/** Promise 7: add, at its bounds. */
public final class Promise07Test {
    public static void main(String[] args) {
        Run.all(Promise07Test.class);
    }

    static void aParentIsMinus1OrAnIdThatThereIs(Run run) {
        run.check("add(-2)" + Calls.WRONG);
        run.check("add(-1) 0\n");
        run.check("add(0)" + Calls.WRONG);
        run.check("add(-1) 0\nadd(-2)" + Calls.WRONG + "add(1)" + Calls.WRONG + "add(0) 1\nadd(2)" + Calls.WRONG + "add(1) 2\nadd(0) 3\n"
            + "add(4)" + Calls.WRONG + "add(3) 4\n");
    }

    static void numbersDoNotWrapAround(Run run) {
        run.check("add(-1) 0\nadd(-2147483648)" + Calls.WRONG + "add(2147483647)" + Calls.WRONG + "add(32)" + Calls.WRONG
            + "add(64)" + Calls.WRONG + "add(-64)" + Calls.WRONG + "add(0) 1\n");
    }

    static void theFortiethIdIsTheLast(Run run) {
        run.check(Calls.each(0, 40, "add(-1) #") + "count(0) 40\ncount(1) 40\nadd(-1)" + Calls.FULL + "count(0) 40\ncount(1) 40\n");
    }

    static void with40IdsAnyParentThatThereIsIsTooLate(Run run) {
        run.check(Calls.each(0, 40, "add(-1) #") + "add(0)" + Calls.FULL + "add(39)" + Calls.FULL);
    }

    /** Both are not as said; the arguments are looked at first. */
    static void with40IdsAWrongParentIsStillWrong(Run run) {
        run.check(Calls.each(0, 40, "add(-1) #") + "add(-2)" + Calls.WRONG + "add(40)" + Calls.WRONG);
    }

    static void idsStayWhenDocumentsAreRemovedAndMerged(Run run) {
        run.check(Calls.each(0, 20, "add(-1) #\nremove(#) -") + "flush() 0\ncount(0) 20\n" + Calls.each(20, 40, "add(-1) #")
            + "flush() 20\n"
            + Calls.each(20, 40, "remove(#) -") + "merge() 20\ncount(0) 40\ncount(1) 0\ncount(2) 0\nadd(-1)" + Calls.FULL);
    }

    static void theDraftStaysWith40Ids(Run run) {
        run.check(Calls.each(0, 40, "add(-1) #") + "put(0, 5) 0\nrule(3, true) true\nrule(4, false) true\nweigh(0, 0, 1.0) 16\nadd(-1)"
            + Calls.FULL
            + "put(0, 6) 5\nrule(3, true) false\nrule(4, false) false\nadd(-1)" + Calls.FULL + "put(0, 7) 6\n");
    }

    static void theDraftStaysWithAWrongParent(Run run) {
        run.check("put(0, 5) 0\nrule(3, true) true\nrule(4, false) true\nweigh(0, 0, 1.0) 16\nadd(0)" + Calls.WRONG + "add(-2)"
            + Calls.WRONG
            + "count(0) 0\ncount(1) 0\nput(0, 6) 5\nrule(3, true) false\nrule(4, false) false\nadd(-1) 0\nflush() 1\nrefresh() 1\n"
            + "clause(0, 0, 0, 1.0) 1\nsearch(3, 8) 1\nvalue(3, 0, 0) 6\n");
    }

    static void theDraftIsEmptyBehindEachAdd(Run run) {
        run.check("put(0, 5) 0\nrule(3, true) true\nrule(4, false) true\nweigh(0, 0, 1.0) 16\nadd(-1) 0\nput(0, 0) 0\nrule(3, true) true\n"
            + "rule(4, false) true\n"
            + "add(-1) 1\nrule(3, true) true\nrule(4, true) true\nadd(-1) 2\nflush() 3\nrefresh() 3\nclause(0, 0, 0, 1.0) 1\n"
            + "search(3, 8) 1\nhit(0) 0\nvalue(4, 2, 0) 0\n");
    }

    static void aParentMayBeRemoved(Run run) {
        run.check("rule(0, true) true\nadd(-1) 0\nremove(0) -\nadd(0) 1\nflush() 1\nremove(1) -\nadd(1) 2\nmerge() 1\nadd(1) 3\nflush() 2\n"
            + "refresh() 2\nvalue(0, 2, 0) 0\nvalue(0, 3, 0) 0\n"
            + "value(1, 3, 0)" + Calls.GONE);
    }

    static void aParentMayBeInTheBufferOrASegment(Run run) {
        run.check("rule(0, true) true\nadd(-1) 0\nadd(0) 1\nflush() 2\nadd(0) 2\nadd(2) 3\nflush() 2\nrefresh() 4\n"
            + Calls.each(0, 4, "value(0, #, 0) 0\nvalue(1, #, 0)" + Calls.GONE));
    }

    static void noParentAllowsNobody(Run run) {
        run.check("rule(0, true) true\nadd(-1) 0\nadd(-1) 1\nflush() 2\nrefresh() 2\nvalue(0, 0, 0) 0\nvalue(0, 1, 0)" + Calls.GONE);
    }

    static void theLongestLineOfParentsAllows(Run run) {
        run.check("rule(7, true) true\nadd(-1) 0\n" + line(1) + "flush() 40\nrefresh() 40\nvalue(7, 0, 0) 0\nvalue(7, 39, 0) 0\n"
            + "value(6, 39, 0)" + Calls.GONE);
    }

    static void theLongestLineOfParentsDenies(Run run) {
        run.check("rule(6, true) true\nrule(7, true) true\nrule(7, false) true\nadd(-1) 0\n" + line(1) + "flush() 40\nrefresh() 40\n"
            + "value(6, 39, 0) 0\nvalue(7, 39, 0)" + Calls.GONE);
    }

    static void whatIsNearerAllows(Run run) {
        run.check("rule(7, true) true\nadd(-1) 0\nadd(0) 1\nrule(6, true) true\nadd(1) 2\nadd(2) 3\nrule(7, true) true\nadd(3) 4\n"
            + "flush() 5\nrefresh() 5\n"
            + "value(7, 1, 0) 0\nvalue(6, 1, 0)" + Calls.GONE + "value(7, 2, 0)" + Calls.GONE + "value(6, 2, 0) 0\nvalue(7, 3, 0)"
            + Calls.GONE
            + "value(6, 3, 0) 0\nvalue(7, 4, 0) 0\nvalue(6, 4, 0)" + Calls.GONE);
    }

    static void whatIsFartherStillDenies(Run run) {
        run.check("rule(7, false) true\nadd(-1) 0\nrule(7, true) true\nrule(6, true) true\nadd(0) 1\nrule(7, true) true\n"
            + "rule(6, false) true\nadd(1) 2\nrule(6, true) true\nrule(5, true) true\nadd(2) 3\n"
            + "flush() 4\nrefresh() 4\nvalue(7, 1, 0)" + Calls.GONE + "value(6, 1, 0) 0\nvalue(7, 2, 0)" + Calls.GONE + "value(6, 3, 0)"
            + Calls.GONE + "value(5, 3, 0) 0\n");
    }

    static void aChildRulesNothingForItsParent(Run run) {
        run.check("rule(7, true) true\nadd(-1) 0\nrule(6, true) true\nrule(7, false) true\nadd(0) 1\nflush() 2\nrefresh() 2\n"
            + "value(7, 0, 0) 0\nvalue(6, 0, 0)" + Calls.GONE + "value(6, 1, 0) 0\n");
    }

    static void aChildTakesNeitherValuesNorCodesOver(Run run) {
        run.check("rule(0, true) true\nput(0, 5) 0\nweigh(0, 0, 1.0) 16\nadd(-1) 0\nadd(0) 1\nflush() 2\nrefresh() 2\nvalue(0, 0, 0) 5\n"
            + "value(0, 1, 0) 0\nclause(0, 0, 0, 1.0) 1\nsearch(0, 8) 1\nhit(0) 0\n");
    }

    private static String line(int from) {
        StringBuilder calls = new StringBuilder();
        for (int id = from; id < 40; id++) {
            calls.append("add(").append(id - 1).append(") ").append(id).append('\n');
        }
        return calls.toString();
    }
}
