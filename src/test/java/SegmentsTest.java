/** Promises 8 to 11: documents that go, segments, THE SNAPSHOT. */
public final class SegmentsTest {
    private static final String READABLE = "rule(0, true) true\nweigh(0, 0, 1.0) 16\n";

    public static void main(String[] args) {
        Run.all(SegmentsTest.class);
    }

    private static String documents(int from, int end) {
        StringBuilder calls = new StringBuilder();
        for (int id = from; id < end; id++) {
            calls.append(READABLE).append("add(-1) ").append(id).append('\n');
        }
        return calls.toString();
    }

    static void removing(Run run) {
        run.check("8: out of the buffer and out of segments", documents(0, 4) + """
            remove(-1) throws.NoSuchElementException
            remove(4) throws.NoSuchElementException
            remove(2147483647) throws.NoSuchElementException
            count(1) 4
            remove(1) -
            count(1) 3
            count(0) 4
            remove(1) throws.NoSuchElementException
            flush() 3
            remove(1) throws.NoSuchElementException
            remove(2) -
            remove(2) throws.NoSuchElementException
            count(1) 0
            count(2) 1
            refresh() 2
            clause(0, 0, 0, 1.0) 1
            search(0, 8) 2
            hit(0) 0
            hit(1) 3
            merge() 1
            remove(2) throws.NoSuchElementException
            remove(0) -
            remove(3) -
            refresh() 0
            """);
        run.check("8: a wrong one changes nothing", documents(0, 1) + """
            remove(1) throws.NoSuchElementException
            """ + documents(1, 2) + """
            flush() 2
            refresh() 2
            """);
    }

    static void flushing(Run run) {
        run.check("9: how many, and none of an empty buffer", documents(0, 2) + """
            count(1) 2
            flush() 2
            count(1) 0
            count(2) 1
            flush() 0
            count(2) 1
            """ + documents(2, 3) + """
            remove(2) -
            flush() 0
            count(2) 1
            """ + documents(3, 4) + """
            flush() 1
            count(2) 2
            count(3) 0
            """);
    }

    static void sixSegments(Run run) {
        StringBuilder calls = new StringBuilder();
        for (int id = 0; id < 6; id++) {
            calls.append(documents(id, id + 1)).append("flush() 1\n");
        }
        run.check("9: with 6 segments, also if the buffer is empty", calls + """
            count(2) 6
            flush() throws.IllegalStateException
            """ + documents(6, 7) + """
            flush() throws.IllegalStateException
            count(1) 1
            count(2) 6
            refresh() 6
            count(3) 6
            merge() 0
            count(2) 1
            count(1) 1
            flush() 1
            count(2) 2
            count(3) 6
            refresh() 7
            count(3) 2
            """);
    }

    static void merging(Run run) {
        run.check("10: none, and one with nothing removed", """
            merge() 0
            count(2) 0
            """ + documents(0, 2) + """
            merge() 0
            count(1) 2
            flush() 2
            refresh() 2
            search(0, 1) 0
            merge() 0
            count(2) 1
            refresh() 2
            count(8) 1
            """);
        run.check("10: one with a removed document", documents(0, 2) + """
            flush() 2
            refresh() 2
            search(0, 1) 0
            remove(0) -
            merge() 1
            merge() 0
            count(2) 1
            refresh() 1
            count(8) 0
            """);
        run.check("10: two with nothing removed", documents(0, 2) + """
            flush() 2
            """ + documents(2, 3) + """
            flush() 1
            count(2) 2
            merge() 0
            count(2) 1
            refresh() 3
            """);
        run.check("10: none is left", documents(0, 1) + """
            flush() 1
            """ + documents(1, 3) + """
            flush() 2
            remove(0) -
            remove(1) -
            remove(2) -
            count(2) 2
            """ + documents(3, 4) + """
            merge() 3
            count(2) 0
            count(1) 1
            merge() 0
            flush() 1
            count(2) 1
            """);
        run.check("10: what went out of the buffer does not count", documents(0, 2) + """
            remove(0) -
            flush() 1
            merge() 0
            """ + documents(2, 4) + """
            flush() 2
            remove(3) -
            """ + documents(4, 5) + """
            remove(4) -
            merge() 1
            refresh() 2
            """);
    }

    static void blocksOfMerged(Run run) {
        run.check("10: removed documents fill blocks till merge", documents(0, 5) + """
            flush() 5
            """ + documents(5, 8) + """
            flush() 3
            remove(0) -
            remove(5) -
            clause(0, 0, 0, 1.0) 1
            refresh() 6
            search(0, 8) 6
            count(4) 3
            merge() 2
            search(0, 8) 6
            count(4) 3
            refresh() 6
            search(0, 8) 6
            count(4) 2
            hit(0) 1
            hit(3) 4
            hit(4) 6
            hit(5) 7
            """);
    }

    static void refreshing(Run run) {
        run.check("11: a snapshot stays what it was", documents(0, 3) + """
            clause(0, 0, 0, 1.0) 1
            refresh() 0
            search(0, 8) 0
            flush() 3
            count(3) 0
            search(0, 8) 0
            refresh() 3
            count(3) 1
            search(0, 8) 3
            remove(1) -
            search(0, 8) 3
            value(0, 1, 0) 0
            merge() 1
            search(0, 8) 3
            value(0, 1, 0) 0
            """ + documents(3, 4) + """
            flush() 1
            search(0, 8) 3
            refresh() 3
            count(3) 2
            search(0, 8) 3
            hit(1) 2
            hit(2) 3
            value(0, 1, 0) throws.NoSuchElementException
            """);
        run.check("11: members, levels and clearances as they were", """
            rule(8, true) true
            weigh(1, 0, 1.0) 16
            put(1, 6) 0
            add(-1) 0
            flush() 1
            clause(0, 0, 1, 1.0) 1
            refresh() 1
            search(0, 1) 0
            member(0, 8, true) true
            search(0, 1) 0
            value(0, 0, 1) throws.NoSuchElementException
            refresh() 1
            search(0, 1) 1
            value(0, 0, 1) 6
            level(0, 1, 2) 0
            search(0, 1) 1
            value(0, 0, 1) 6
            refresh() 1
            search(0, 1) 0
            value(0, 0, 1) throws.UnsupportedOperationException
            level(1, 0, 2) 0
            search(0, 1) 0
            value(0, 0, 1) throws.UnsupportedOperationException
            refresh() 1
            search(0, 1) 1
            value(0, 0, 1) 6
            member(0, 8, false) true
            search(0, 1) 1
            refresh() 1
            search(0, 1) 0
            """);
    }
}
