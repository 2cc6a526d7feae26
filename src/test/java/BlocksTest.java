/** Promises 14 and 18 (4 and 5): which blocks are looked at. */
public final class BlocksTest {
    private final StringBuilder calls = new StringBuilder();
    private int ids = 0;

    public static void main(String[] args) {
        Run.all(BlocksTest.class);
    }

    /** Documents for user 0 that have just term 0 in field 0, of these weights. */
    private BlocksTest documents(double... weights) {
        for (double weight : weights) {
            document("rule(0, true) true", "weigh(0, 0, " + weight + ") " + (int) (weight * 16));
        }
        return this;
    }

    private BlocksTest document(String... draft) {
        for (String call : draft) {
            calls.append(call).append('\n');
        }
        calls.append("add(-1) ").append(ids).append('\n');
        ids++;
        return this;
    }

    private BlocksTest then(String more) {
        calls.append(more).append('\n');
        return this;
    }

    private void check(Run run, String title, String rest) {
        run.check(title, calls + rest);
    }

    static void sizes(Run run) {
        for (int n = 1; n <= 40; n++) {
            BlocksTest test = new BlocksTest();
            for (int i = 0; i < n; i++) {
                test.document("rule(0, true) true");
            }
            test.check(run, "blocks of 4", "flush() " + n + "\nrefresh() " + n + "\nsearch(0, 8) 0\ncount(4) " + (n + 3) / 4);
        }
    }

    static void boundsAreAbove(Run run) {
        new BlocksTest().documents(3, 2, 1, 1, 3, 3, 3, 3, 2, 2, 2, 2.5, 4, 1, 1, 1).then("flush() 16\nrefresh() 16").check(run, "a bound must be above the last hit's score", """
            clause(0, 0, 0, 1.0) 1
            search(0, 1) 1
            hit(0) 12
            count(4) 2
            count(5) 8
            search(0, 2) 2
            hit(0) 12
            hit(1) 0
            count(4) 3
            count(5) 12
            search(0, 3) 3
            hit(2) 4
            count(4) 3
            search(0, 7) 7
            hit(6) 11
            count(4) 4
            count(5) 16
            """);
    }

    static void boundsOfAllDocuments(Run run) {
        BlocksTest test = new BlocksTest().documents(3, 3, 3, 3, 1, 1, 9, 1, 1, 2, 1, 1);
        test.document("rule(1, true) true", "weigh(0, 0, 8.0) 128").documents(1);
        test.then("flush() 14\nremove(6) -\nrefresh() 13").check(run, "removed documents and those that may not be read are in bounds", """
            clause(0, 0, 0, 1.0) 1
            search(0, 1) 1
            hit(0) 0
            score(0) 3.0
            count(4) 3
            count(5) 8
            merge() 1
            refresh() 13
            search(0, 1) 1
            count(4) 2
            count(5) 7
            """);
    }

    static void boundsOfTerms(Run run) {
        BlocksTest test = new BlocksTest().documents(3, 3, 3, 3);
        test.document("rule(0, true) true", "weigh(0, 0, 2.0) 32").document("rule(0, true) true", "weigh(1, 5, 2.0) 32");
        test.then("flush() 6\nrefresh() 6").check(run, "a bound takes the greatest code of each clause, MUST and NOT aside", """
            clause(0, 0, 0, 1.0) 1
            clause(0, 5, 1, 0.5) 2
            search(0, 4) 4
            count(4) 1
            clear() 2
            clause(0, 0, 0, 1.0) 1
            clause(0, 5, 1, 0.75) 2
            search(0, 4) 4
            hit(3) 3
            count(4) 2
            count(5) 6
            clear() 2
            clause(0, 0, 0, 1.0) 1
            clause(1, 0, 0, 9.0) 2
            clause(2, 5, 1, 9.0) 3
            search(0, 4) 4
            count(4) 1
            """);
    }

    static void boundsOfOpenFields(Run run) {
        BlocksTest test = new BlocksTest().documents(3, 3, 3, 3);
        test.document("rule(0, true) true", "weigh(0, 0, 2.0) 32", "weigh(1, 5, 9.0) 144");
        test.then("flush() 5\nlevel(0, 1, 1) 0\nrefresh() 5").check(run, "a clause that is left out is in no bound", """
            clause(0, 0, 0, 1.0) 1
            clause(0, 5, 1, 1.0) 2
            search(0, 1) 1
            hit(0) 0
            count(4) 1
            level(1, 0, 1) 0
            refresh() 5
            search(0, 1) 1
            hit(0) 4
            score(0) 11.0
            count(4) 2
            """);
    }

    static void boundsAsFloats(Run run) {
        BlocksTest test = new BlocksTest();
        test.document("rule(0, true) true", "weigh(0, 0, 16.0) 255").documents(1, 1, 1);
        test.document("rule(0, true) true", "weigh(0, 0, 16.0) 255", "weigh(0, 1, 1.0) 16", "weigh(0, 2, 1.0) 16");
        test.then("flush() 5\nrefresh() 5").check(run, "a bound is added up as a score is", """
            clause(0, 2, 0, 0.0004) 1
            clause(0, 1, 0, 0.0004) 2
            clause(0, 0, 0, 1000.0) 3
            search(0, 1) 1
            hit(0) 0
            score(0) 15937.5
            count(4) 1
            """);
    }

    static void untilThereAreHits(Run run) {
        BlocksTest test = new BlocksTest().documents(5, 1, 1, 1);
        for (int i = 0; i < 4; i++) {
            test.document("rule(0, true) true");
        }
        test.documents(1, 1, 1, 1, 1);
        test.then("flush() 13\nrefresh() 13").check(run, "as long as there are not k hits each block is looked at, also one without any code", """
            clause(0, 0, 0, 1.0) 1
            search(0, 5) 5
            hit(4) 8
            count(4) 3
            count(5) 8
            search(0, 4) 4
            count(4) 1
            search(0, 8) 8
            count(4) 3
            clause(1, 0, 0, 1.0) 2
            clause(2, 0, 0, 1.0) 3
            search(0, 1) 0
            count(4) 4
            count(5) 0
            """);
    }

    static void segmentsInOrder(Run run) {
        BlocksTest test = new BlocksTest().documents(1, 1).then("flush() 2").documents(2, 1).then("flush() 2").documents(2, 3).then("flush() 2");
        test.then("refresh() 6").check(run, "segment by segment as they came, each with blocks of its own", """
            clause(0, 0, 0, 1.0) 1
            search(0, 1) 1
            hit(0) 5
            count(4) 3
            count(5) 6
            search(0, 2) 2
            hit(0) 5
            hit(1) 2
            count(4) 3
            merge() 0
            refresh() 6
            search(0, 1) 1
            hit(0) 5
            count(4) 2
            count(5) 6
            """);
        new BlocksTest().documents(3).then("flush() 1").documents(2).then("flush() 1\nrefresh() 2").check(run, "later segments are passed over too", """
            clause(0, 0, 0, 1.0) 1
            search(0, 1) 1
            count(4) 1
            count(5) 1
            count(6) 2
            search(0, 2) 2
            count(4) 2
            count(7) 2
            """);
    }
}
