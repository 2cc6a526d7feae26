/** Promise 1: a new object, where all is empty. */
public final class Promise01Test {
    public static void main(String[] args) {
        Run.all(Promise01Test.class);
    }

    static void nothingIsCounted(Run run) {
        run.check(Calls.each(0, 9, "count(#) 0"));
    }

    static void eachUserIsItsOnlyToken(Run run) {
        for (int u = 0; u < 8; u++) {
            run.check("count(" + (10 + u) + ") " + (1 << u) + "\ncount(" + (20 + u) + ") " + (1 << u));
        }
    }

    static void nobodyIsAMember(Run run) {
        StringBuilder calls = new StringBuilder();
        for (int m = 0; m < 16; m++) {
            for (int g = 8; g < 16; g++) {
                calls.append(m == g ? "" : "member(" + m + ", " + g + ", false) false\n");
            }
        }
        run.check(calls.toString());
    }

    static void levelsAndClearancesAre0(Run run) {
        run.check(Calls.each(0, 3, "level(0, #, 3) 0") + Calls.each(0, 8, "level(1, #, 3) 0"));
    }

    static void theDraftHasNoValue(Run run) {
        run.check(Calls.each(0, 3, "put(#, 5) 0"));
    }

    static void theDraftAllowsAndDeniesNobody(Run run) {
        run.check(Calls.each(0, 16, "rule(#, true) true"));
        run.check(Calls.each(0, 16, "rule(#, false) true"));
        run.check("add(-1) 0\nflush() 1\nrefresh() 1\n" + Calls.each(0, 8, "value(#, 0, 0)" + Calls.GONE));
    }

    static void theDraftHasNoCode(Run run) {
        String calls = "rule(0, true) true\nadd(-1) 0\nflush() 1\nrefresh() 1\n";
        for (int field = 0; field < 3; field++) {
            calls += Calls.each(0, 8, "clause(0, #, " + field + ", 1.0) 1\nsearch(0, 8) 0\nclear() 1");
        }
        run.check(calls);
    }

    static void noIdIsThere(Run run) {
        run.check("remove(0)" + Calls.GONE + "value(0, 0, 0)" + Calls.GONE + "add(0)" + Calls.WRONG + "add(-1) 0\n");
    }

    static void theBufferIsEmpty(Run run) {
        run.check("flush() 0\ncount(1) 0\ncount(2) 0\n");
    }

    static void noSegmentIsThere(Run run) {
        run.check("merge() 0\ncount(2) 0\nrefresh() 0\ncount(3) 0\n");
    }

    static void theSnapshotIsEmptyWithoutARefresh(Run run) {
        run.check(Calls.documents(0, 1) + """
            flush() 1
            member(0, 8, true) true
            clause(0, 0, 0, 1.0) 1
            search(0, 8) 0
            count(3) 0
            count(4) 0
            count(6) 0
            count(20) 1
            """ + "value(0, 0, 0)" + Calls.GONE);
    }

    static void theQueryHasNoClause(Run run) {
        run.check("clear() 0\nclause(0, 0, 0, 1.0) 1\n");
        run.check(Calls.documents(0, 1) + "flush() 1\nrefresh() 1\nsearch(0, 8) 0\ncount(5) 0\n");
    }

    static void noHitIsThere(Run run) {
        run.check(Calls.each(-1, 9, "hit(#)" + Calls.NO_HIT + "score(#)" + Calls.NO_HIT));
    }

    static void objectsShareNothing(Run run) {
        VeilSearch first = new VeilSearch();
        VeilSearch other = new VeilSearch();
        for (String call : (Calls.documents(0, 2) + "flush() 2\nmember(0, 8, true) true\nlevel(0, 1, 2) 0\nrefresh() 2\n"
            + "clause(0, 0, 0, 1.0) 1\nsearch(0, 8) 2\nput(0, 7) 0").split("\n")) {
            if (!call.isBlank()) {
                int end = call.indexOf(')') + 1;
                run.due("Promise01Test.objectsShareNothing: "
                    + call, Run.answer(first, call.substring(0, end)), call.substring(end).trim());
            }
        }
        String[][] rows = {{"count(0)", "0"}, {"count(10)", "1"}, {"count(20)", "1"}, {"count(6)", "0"}, {"clear()", "0"}, {"level(0, 1, 0)", "0"},
            {"put(0, 1)", "0"}, {"rule(0, true)", "true"}, {"refresh()", "0"}, {"hit(0)", "throws.IndexOutOfBoundsException"}, {"add(-1)", "0"}};
        for (String[] row : rows) {
            run.due("Promise01Test.objectsShareNothing: " + row[0] + " on the other object", Run.answer(other, row[0]), row[1]);
        }
    }
}
