/** Promises 11, 14 and 18 (6 to 8): filters that are made, kept, used and dropped. */
public final class FiltersTest {
    public static void main(String[] args) {
        Run.all(FiltersTest.class);
    }

    private static String segments(int from, int end) {
        StringBuilder calls = new StringBuilder();
        for (int id = from; id < end; id++) {
            calls.append("rule(0, true) true\nweigh(0, 0, 1.0) 16\nadd(-1) ").append(id).append("\nflush() 1\n");
        }
        return calls.toString();
    }

    private static String counts(int made, int used, int kept) {
        return "count(6) " + made + "\ncount(7) " + used + "\ncount(8) " + kept + "\n";
    }

    static void madeAndUsed(Run run) {
        run.check("18: none without segments", "search(0, 1) 0\n" + counts(0, 0, 0) + segments(0, 1) + "search(0, 1) 0\n"
            + counts(0, 0, 0));
        run.check("18: one for each segment and user", segments(0, 2) + "refresh() 2\nsearch(0, 1) 0\n" + counts(2, 0, 2)
            + "search(0, 1) 0\n" + counts(2, 2, 2) + "search(1, 1) 0\n" + counts(4, 2, 4) + "search(0, 8) 0\nsearch(1, 8) 0\n"
            + counts(4, 6, 4));
        run.check("18: also if no block is looked at or nothing can be found", segments(0, 2) + """
            refresh() 2
            clause(0, 0, 0, 1.0) 1
            search(0, 1) 1
            count(4) 1
            """ + counts(2, 0, 2) + """
            level(0, 1, 1) 0
            clause(1, 0, 1, 1.0) 2
            refresh() 2
            search(0, 1) 0
            """ + counts(4, 0, 2));
        run.check("14: a search that throws uses none", segments(0, 1) + "refresh() 1\nsearch(0, 9) throws.IllegalArgumentException\n"
            + counts(0, 0, 0));
    }

    static void theLongestAgoGoes(Run run) {
        run.check("18: the one that was used the longest ago goes", segments(0, 1) + """
            refresh() 1
            search(0, 1) 0
            search(1, 1) 0
            search(2, 1) 0
            search(3, 1) 0
            search(4, 1) 0
            """ + counts(5, 0, 5) + "search(0, 1) 0\n" + counts(5, 1, 5)
            + "search(5, 1) 0\n" + counts(6, 1, 5) + "search(0, 1) 0\n" + counts(6, 2, 5)
            + "search(2, 1) 0\n" + counts(6, 3, 5) + "search(1, 1) 0\n" + counts(7, 3, 5)
            + "search(3, 1) 0\n" + counts(8, 3, 5) + "search(4, 1) 0\n" + counts(9, 3, 5)
            + "search(2, 1) 0\n" + counts(9, 4, 5) + "search(5, 1) 0\n" + counts(10, 4, 5));
    }

    static void sixSegments(Run run) {
        run.check("18: of 6 segments the filters push each other out", segments(0, 6) + """
            refresh() 6
            clause(0, 0, 0, 1.0) 1
            search(0, 8) 6
            """ + counts(6, 0, 5) + "search(0, 8) 6\n" + counts(12, 0, 5) + "search(1, 8) 0\n" + counts(18, 0, 5));
        run.check("18: of 3 segments for two users", segments(0, 3) + "refresh() 3\nsearch(0, 8) 0\nsearch(1, 8) 0\n" + counts(6, 0, 5)
            + "search(1, 8) 0\n" + counts(6, 3, 5) + "search(0, 8) 0\n" + counts(9, 3, 5) + "search(1, 8) 0\n" + counts(12, 3, 5));
    }

    static void droppedForRights(Run run) {
        String kept = segments(0, 2) + "refresh() 2\nsearch(0, 1) 0\n" + counts(2, 0, 2);
        String[] changes = {"member(9, 8, true) true", "member(7, 15, true) true", "level(0, 2, 1) 0", "level(0, 0, 3) 0", "level(1, 7, 1) 0", "level(1, 0, 3) 0"};
        for (String change : changes) {
            run.check("11: all are dropped behind " + change, kept + change + "\n" + counts(2, 0, 2) + "search(0, 1) 0\n" + counts(2, 2, 2)
                + "refresh() 2\n" + counts(2, 2, 0) + "search(0, 1) 0\n" + counts(4, 2, 2) + "refresh() 2\n" + counts(4, 2, 2));
        }
        run.check("11: also if a member goes", "member(0, 8, true) true\n" + segments(0, 1) + """
            refresh() 1
            search(0, 1) 0
            member(0, 8, false) true
            refresh() 1
            """ + counts(1, 0, 0));
    }

    static void keptForTheSameRights(Run run) {
        run.check("11: what is the same again drops none", segments(0, 2) + """
            refresh() 2
            search(0, 1) 0
            member(1, 8, true) true
            member(1, 8, false) true
            level(0, 0, 2) 0
            level(0, 0, 0) 2
            level(1, 3, 3) 0
            level(1, 3, 0) 3
            refresh() 2
            """ + counts(2, 0, 2) + "remove(0) -\nrefresh() 1\n" + counts(2, 0, 2) + "search(0, 1) 0\n" + counts(2, 2, 2));
        run.check("11: a kept filter does not bring removed documents back", segments(0, 2) + """
            clause(0, 0, 0, 1.0) 1
            refresh() 2
            search(0, 8) 2
            remove(0) -
            refresh() 1
            search(0, 8) 1
            hit(0) 1
            """ + counts(2, 2, 2));
    }

    static void droppedForSegments(Run run) {
        run.check("11: filters of segments that stay are kept", segments(0, 2) + "refresh() 2\nsearch(0, 1) 0\n" + segments(2, 3)
            + "refresh() 3\n"
            + counts(2, 0, 2) + "search(0, 1) 0\n" + counts(3, 2, 3));
        run.check("11: those of merged ones go with the refresh", segments(0, 2) + "refresh() 2\nsearch(0, 1) 0\nsearch(1, 1) 0\n"
            + "merge() 0\n"
            + counts(4, 0, 4) + "search(0, 1) 0\n" + counts(4, 2, 4) + "refresh() 2\n" + counts(4, 2, 0) + "search(0, 1) 0\n"
            + counts(5, 2, 1)
            + segments(2, 3) + "refresh() 3\nsearch(1, 1) 0\n" + counts(7, 3 - 1, 3) + "search(0, 1) 0\n" + counts(8, 3, 4));
        run.check("11: a segment that came and went between two refreshes", segments(0, 1) + "refresh() 1\nsearch(0, 1) 0\n"
            + segments(1, 2)
            + "remove(0) -\nmerge() 1\nrefresh() 1\n" + counts(1, 0, 0) + "merge() 0\nrefresh() 1\nsearch(0, 1) 0\nrefresh() 1\n"
            + counts(2, 0, 1));
        run.check("11: dropping keeps the order of use", segments(0, 1) + """
            refresh() 1
            search(0, 1) 0
            search(1, 1) 0
            search(2, 1) 0
            search(3, 1) 0
            search(0, 1) 0
            refresh() 1
            search(4, 1) 0
            search(5, 1) 0
            """ + counts(6, 1, 5) + "search(0, 1) 0\n" + counts(6, 2, 5) + "search(1, 1) 0\n" + counts(7, 2, 5));
    }

    static void madeByTheSnapshot(Run run) {
        run.check("14: a filter is made by the snapshot's members", """
            rule(8, true) true
            weigh(0, 0, 1.0) 16
            add(-1) 0
            flush() 1
            clause(0, 0, 0, 1.0) 1
            refresh() 1
            member(0, 8, true) true
            search(0, 1) 0
            refresh() 1
            member(0, 8, false) true
            search(0, 1) 1
            refresh() 1
            search(0, 1) 0
            """);
        run.check("14: and by its segments", segments(0, 3) + """
            clause(0, 0, 0, 1.0) 1
            refresh() 3
            remove(0) -
            remove(1) -
            merge() 2
            search(0, 8) 3
            hit(2) 2
            """);
    }

    static void notForValues(Run run) {
        run.check("17: value uses no filter", segments(0, 1) + "refresh() 1\nvalue(0, 0, 0) 0\n"
            + "value(1, 0, 0) throws.NoSuchElementException\n" + counts(0, 0, 0)
            + "search(0, 1) 0\nvalue(0, 0, 0) 0\n" + counts(1, 0, 1));
    }
}
