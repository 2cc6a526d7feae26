/** Promises 12 to 16: clauses, who is found with which score, and the hits. */
public final class QueryTest {
    public static void main(String[] args) {
        Run.all(QueryTest.class);
    }

    static void clauses(Run run) {
        run.check("12, 13: how many", """
            clear() 0
            clause(0, 0, 0, 1.0) 1
            clause(2, 7, 2, 0.0) 2
            clause(1, 0, 0, 1000.0) 3
            clause(0, 0, 0, 1.0) 4
            clear() 4
            clear() 0
            clause(0, 0, 0, 1e-30) 1
            clause(0, 0, 0, -0.0) 2
            clause(0, 0, 0, 1.0) 3
            clause(0, 0, 0, 1.0) 4
            clause(0, 0, 0, 1.0) 5
            clause(0, 0, 0, 1.0) 6
            clause(0, 0, 0, 1.0) throws.IllegalStateException
            clause(3, 0, 0, 1.0) throws.IllegalArgumentException
            clause(0, 0, 0, 1001.0) throws.IllegalArgumentException
            clear() 6
            clause(0, 0, 0, 1.0) 1
            """);
    }

    static void wrongClauses(Run run) {
        run.check("12: wrong numbers", """
            clause(-1, 0, 0, 1.0) throws.IllegalArgumentException
            clause(3, 0, 0, 1.0) throws.IllegalArgumentException
            clause(0, -1, 0, 1.0) throws.IllegalArgumentException
            clause(0, 8, 0, 1.0) throws.IllegalArgumentException
            clause(0, 0, -1, 1.0) throws.IllegalArgumentException
            clause(0, 0, 3, 1.0) throws.IllegalArgumentException
            clause(0, 0, 0, -1.0) throws.IllegalArgumentException
            clause(0, 0, 0, 1000.5) throws.IllegalArgumentException
            clause(0, 0, 0, 9e-31) throws.IllegalArgumentException
            clause(1, 0, 0, -1.0) throws.IllegalArgumentException
            clause(2, 0, 0, 1e-31) throws.IllegalArgumentException
            clause(0, 0, 0, NaN) throws.IllegalArgumentException
            clause(0, 0, 0, Infinity) throws.IllegalArgumentException
            clear() 0
            """);
    }

    /** Document 0 has terms 0 and 1, document 1 terms 1 and 2, document 2 terms 0 to 2; all in field 0. */
    private static final String THREE = """
        rule(0, true) true
        weigh(0, 0, 1.0) 16
        weigh(0, 1, 1.0) 16
        add(-1) 0
        rule(0, true) true
        weigh(0, 1, 2.0) 32
        weigh(0, 2, 2.0) 32
        add(-1) 1
        rule(0, true) true
        weigh(0, 0, 4.0) 64
        weigh(0, 1, 4.0) 64
        weigh(0, 2, 4.0) 64
        add(-1) 2
        flush() 3
        refresh() 3
        """;

    static void sorts(Run run) {
        run.check("14: without a SCORES nothing is found, but blocks are looked at", THREE + """
            search(0, 8) 0
            count(4) 1
            clause(1, 1, 0, 1.0) 1
            search(0, 8) 0
            clause(2, 5, 0, 1.0) 2
            search(0, 8) 0
            count(4) 1
            count(5) 0
            """);
        run.check("14: one SCORES is enough", THREE + """
            clause(0, 0, 0, 1.0) 1
            clause(0, 2, 0, 1.0) 2
            search(0, 8) 3
            hit(0) 2
            score(0) 8.0
            hit(1) 1
            score(1) 2.0
            hit(2) 0
            score(2) 1.0
            count(5) 3
            """);
        run.check("14: each MUST", THREE + """
            clause(0, 1, 0, 1.0) 1
            search(0, 8) 3
            clause(1, 0, 0, 1.0) 2
            search(0, 8) 2
            hit(0) 2
            hit(1) 0
            clause(1, 2, 0, 1.0) 3
            search(0, 8) 1
            hit(0) 2
            score(0) 4.0
            clause(1, 7, 0, 1.0) 4
            search(0, 8) 0
            """);
        run.check("14: no NOT", THREE + """
            clause(0, 1, 0, 1.0) 1
            clause(2, 0, 0, 9.0) 2
            search(0, 8) 1
            hit(0) 1
            score(0) 2.0
            count(5) 1
            clause(2, 0, 1, 1.0) 3
            search(0, 8) 1
            clause(2, 2, 0, 1.0) 4
            search(0, 8) 0
            """);
        run.check("14: a clause keeps its sort where others come before it", THREE + """
            clause(2, 2, 0, 1.0) 1
            clause(0, 1, 0, 1.0) 2
            clause(1, 0, 0, 1.0) 3
            search(0, 8) 1
            hit(0) 0
            score(0) 1.0
            clear() 3
            clause(1, 2, 0, 1.0) 1
            clause(2, 0, 0, 1.0) 2
            clause(0, 1, 0, 1.0) 3
            search(0, 8) 1
            hit(0) 1
            score(0) 2.0
            """);
        run.check("14: six clauses, and none that was cleared", THREE + """
            clause(0, 0, 0, 1.0) 1
            clause(0, 1, 0, 1.0) 2
            clause(0, 2, 0, 1.0) 3
            clause(0, 2, 0, 1.0) 4
            clause(0, 1, 0, 1.0) 5
            clause(0, 0, 0, 1.0) 6
            search(0, 8) 3
            score(0) 24.0
            hit(1) 1
            score(1) 8.0
            score(2) 4.0
            clear() 6
            clause(0, 0, 0, 1.0) 1
            search(0, 8) 2
            score(0) 4.0
            score(1) 1.0
            """);
        run.check("14: the least code is a code, and a weight that is cut to 0 is none", """
            rule(0, true) true
            weigh(0, 0, 0.03125) 1
            weigh(0, 1, 0.03125) 1
            add(-1) 0
            rule(0, true) true
            weigh(0, 0, 0.03125) 1
            weigh(0, 1, 0.03) 0
            add(-1) 1
            flush() 2
            refresh() 2
            clause(0, 0, 0, 1.0) 1
            search(0, 8) 2
            score(0) 0.0625
            clause(1, 1, 0, 1.0) 2
            search(0, 8) 1
            hit(0) 0
            clear() 2
            clause(0, 0, 0, 1.0) 1
            clause(2, 1, 0, 1.0) 2
            search(0, 8) 1
            hit(0) 1
            """);
        run.check("14: not the buffer, not removed ones, not those that may not be read", THREE + """
            clause(0, 1, 0, 1.0) 1
            rule(0, true) true
            weigh(0, 1, 9.0) 144
            add(-1) 3
            rule(1, true) true
            weigh(0, 1, 8.0) 128
            add(-1) 4
            refresh() 3
            search(0, 8) 3
            flush() 2
            remove(2) -
            refresh() 4
            search(0, 8) 3
            hit(0) 3
            hit(1) 1
            hit(2) 0
            search(1, 8) 1
            hit(0) 4
            """);
    }

    static void veiledFields(Run run) {
        String veiled = """
            level(1, 1, 2) 0
            level(1, 2, 3) 0
            level(0, 1, 2) 0
            rule(8, true) true
            weigh(0, 0, 1.0) 16
            weigh(1, 0, 2.0) 32
            add(-1) 0
            rule(8, true) true
            weigh(1, 0, 3.0) 48
            weigh(1, 1, 3.0) 48
            add(-1) 1
            member(0, 8, true) true
            member(1, 8, true) true
            member(2, 8, true) true
            flush() 2
            refresh() 2
            """;
        run.check("14: a SCORES of a veiled field is left out", veiled + """
            clause(0, 0, 0, 1.0) 1
            clause(0, 0, 1, 1.0) 2
            search(0, 8) 1
            hit(0) 0
            score(0) 1.0
            search(1, 8) 2
            hit(0) 0
            score(0) 3.0
            score(1) 3.0
            search(2, 8) 2
            """);
        run.check("14: so is a NOT", veiled + """
            clause(0, 0, 0, 1.0) 1
            clause(2, 0, 1, 1.0) 2
            search(0, 8) 1
            search(1, 8) 0
            search(2, 8) 0
            """);
        run.check("14: with a MUST of one nothing is found, but blocks are looked at", veiled + """
            clause(0, 0, 0, 1.0) 1
            clause(1, 0, 1, 1.0) 2
            search(1, 8) 1
            count(5) 1
            search(0, 8) 0
            count(4) 1
            count(5) 0
            search(1, 8) 1
            search(0, 8) 0
            clear() 2
            clause(0, 0, 0, 1.0) 1
            search(0, 8) 1
            """);
    }

    static void weightsOfClauses(Run run) {
        run.check("14, 16: a weight of 0 finds, and MUST has none", THREE + """
            clause(0, 2, 0, 0.0) 1
            clause(1, 1, 0, 5.0) 2
            search(0, 8) 2
            hit(0) 1
            score(0) 0.0
            hit(1) 2
            score(1) 0.0
            clear() 2
            clause(0, 2, 0, -0.0) 1
            search(0, 8) 2
            score(0) 0.0
            """);
        run.check("14, 16: the same clause twice counts twice", THREE + """
            clause(0, 0, 0, 1.0) 1
            clause(0, 0, 0, 0.5) 2
            search(0, 8) 2
            score(0) 6.0
            score(1) 1.5
            """);
    }

    static void orderOfAdding(Run run) {
        String wide = """
            rule(0, true) true
            weigh(0, 0, 16.0) 255
            weigh(0, 1, 1.0) 16
            weigh(1, 0, 1.0) 16
            weigh(2, 0, 1.0) 16
            weigh(0, 2, 1.0) 16
            weigh(0, 7, 16.0) 255
            weigh(2, 1, 16.0) 255
            add(-1) 0
            flush() 1
            refresh() 1
            """;
        run.check("16: by rising terms, the greatest first", wide + """
            clause(0, 2, 0, 0.0004) 1
            clause(0, 1, 0, 0.0004) 2
            clause(0, 0, 0, 1000.0) 3
            search(0, 1) 1
            score(0) 15937.5
            """);
        run.check("16: by rising terms, the greatest last", wide + """
            clause(0, 7, 0, 1000.0) 1
            clause(0, 1, 0, 0.0004) 2
            clause(0, 2, 0, 0.0004) 3
            search(0, 1) 1
            score(0) 15937.5009765625
            """);
        run.check("16: then by rising fields", wide + """
            clause(0, 0, 2, 0.0004) 1
            clause(0, 0, 1, 0.0004) 2
            clause(0, 0, 0, 1000.0) 3
            search(0, 1) 1
            score(0) 15937.5
            """);
        run.check("16: terms before fields", wide + """
            clause(0, 1, 2, 1000.0) 1
            clause(0, 2, 0, 0.0004) 2
            clause(0, 0, 2, 0.0004) 3
            clause(0, 0, 1, 0.0004) 4
            search(0, 1) 1
            score(0) 15937.5009765625
            """);
        run.check("16: then as they came, the greatest first", wide + """
            clause(0, 1, 0, 1000.0) 1
            clause(0, 1, 0, 2.5e-5) 2
            clause(0, 1, 0, 2.5e-5) 3
            search(0, 1) 1
            score(0) 1000.0
            """);
        run.check("16: then as they came, the greatest last", wide + """
            clause(0, 1, 0, 2.5e-5) 1
            clause(0, 1, 0, 2.5e-5) 2
            clause(0, 1, 0, 1000.0) 3
            search(0, 1) 1
            score(0) 1000.0000610351562
            """);
    }

    static void floats(Run run) {
        run.check("16: weight, product and sum are floats", """
            rule(0, true) true
            weigh(0, 0, 0.1875) 3
            weigh(0, 1, 12.5) 200
            add(-1) 0
            flush() 1
            refresh() 1
            clause(0, 0, 0, 0.1) 1
            search(0, 1) 1
            score(0) 0.01875000074505806
            clause(0, 1, 0, 0.7) 2
            search(0, 1) 1
            score(0) 8.768750190734863
            """);
    }

    static void hitsInOrder(Run run) {
        String five = "";
        double[] weights = {2.0, 3.0, 2.0, 3.0, 1.0};
        for (int id = 0; id < weights.length; id++) {
            five += "rule(0, true) true\nweigh(0, 0, " + weights[id] + ") " + (int) (weights[id] * 16) + "\nadd(-1) " + id + "\n";
        }
        five += "flush() 5\nrefresh() 5\nclause(0, 0, 0, 1.0) 1\n";
        run.check("14, 15: by falling scores, then rising IDs", five + """
            search(0, 8) 5
            hit(0) 1
            hit(1) 3
            hit(2) 0
            hit(3) 2
            hit(4) 4
            score(0) 3.0
            score(1) 3.0
            score(2) 2.0
            score(4) 1.0
            hit(5) throws.IndexOutOfBoundsException
            score(5) throws.IndexOutOfBoundsException
            hit(-1) throws.IndexOutOfBoundsException
            score(-1) throws.IndexOutOfBoundsException
            hit(2147483647) throws.IndexOutOfBoundsException
            score(-2147483648) throws.IndexOutOfBoundsException
            """);
        run.check("14: the first k", five + """
            search(0, 1) 1
            hit(0) 1
            hit(1) throws.IndexOutOfBoundsException
            count(5) 4
            search(0, 3) 3
            hit(0) 1
            hit(1) 3
            hit(2) 0
            score(2) 2.0
            hit(3) throws.IndexOutOfBoundsException
            search(0, 4) 4
            hit(3) 2
            search(0, 2) 2
            hit(1) 3
            score(2) throws.IndexOutOfBoundsException
            """);
    }

    static void moreThanEight(Run run) {
        StringBuilder ten = new StringBuilder();
        for (int id = 0; id < 10; id++) {
            ten.append("rule(0, true) true\nweigh(0, 0, ").append(id + 1).append(") ").append(16 * id + 16).append("\n"
                + "add(-1) ").append(id).append('\n');
        }
        run.check("14: no more than 8", ten + """
            flush() 10
            refresh() 10
            clause(0, 0, 0, 1.0) 1
            search(0, 8) 8
            hit(0) 9
            hit(7) 2
            score(7) 3.0
            hit(8) throws.IndexOutOfBoundsException
            count(5) 10
            """);
    }

    static void wrongSearches(Run run) {
        run.check("14: wrong numbers, and the latest search stays", THREE + """
            clause(0, 0, 0, 1.0) 1
            search(0, 1) 1
            search(-1, 1) throws.IllegalArgumentException
            search(8, 1) throws.IllegalArgumentException
            search(0, 0) throws.IllegalArgumentException
            search(0, -1) throws.IllegalArgumentException
            search(0, 9) throws.IllegalArgumentException
            search(2147483647, 2147483647) throws.IllegalArgumentException
            hit(0) 2
            score(0) 4.0
            count(4) 1
            count(5) 2
            count(6) 1
            count(7) 0
            search(7, 8) 0
            """);
    }

    static void hitsStay(Run run) {
        run.check("15, 16: hits are of the latest search, whatever comes behind it", THREE + """
            clause(0, 0, 0, 1.0) 1
            search(0, 8) 2
            remove(2) -
            merge() 1
            refresh() 2
            clear() 1
            level(0, 0, 3) 0
            refresh() 2
            hit(0) 2
            score(0) 4.0
            hit(1) 0
            count(4) 1
            count(5) 2
            search(0, 8) 0
            hit(0) throws.IndexOutOfBoundsException
            score(0) throws.IndexOutOfBoundsException
            count(5) 0
            """);
    }
}
