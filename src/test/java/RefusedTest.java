/** A call that is refused changes nothing: a run that shows all there is answers the same with one such call behind each row. */
public final class RefusedTest {
    private static final String SHOWS_ALL = """
        member(0, 8, true) true
        member(8, 9, true) true
        level(0, 1, 2) 0
        level(1, 0, 1) 0
        weigh(0, 0, 1.0) 16
        weigh(1, 7, 2.0) 32
        put(0, 10) 0
        put(0, 11) 10
        put(2, 12) 0
        rule(9, true) true
        rule(9, true) false
        rule(1, false) true
        rule(1, false) false
        add(-1) 0
        weigh(0, 0, 3.0) 48
        put(1, 20) 0
        add(0) 1
        rule(0, true) true
        weigh(0, 1, 4.0) 64
        add(1) 2
        count(0) 3
        count(1) 3
        remove(1) -
        count(1) 2
        flush() 2
        count(2) 1
        refresh() 2
        count(3) 1
        count(10) 769
        count(20) 769
        clause(0, 1, 0, 0.5) 1
        clause(0, 0, 0, 2.0) 2
        clause(2, 7, 1, 1.0) 3
        search(0, 8) 2
        hit(0) 0
        score(0) 2.0
        hit(1) 2
        score(1) 2.0
        count(4) 1
        count(5) 2
        count(6) 1
        count(7) 0
        search(1, 8) 0
        count(4) 1
        count(5) 0
        search(0, 1) 1
        count(6) 2
        count(7) 1
        count(8) 2
        value(0, 0, 0) 11
        value(0, 0, 1) throws.UnsupportedOperationException
        value(0, 0, 2) 12
        value(1, 0, 0) throws.NoSuchElementException
        level(1, 0, 2) 1
        level(0, 1, 2) 2
        refresh() 2
        count(8) 0
        search(0, 8) 1
        hit(0) 2
        score(0) 2.0
        clear() 3
        remove(0) -
        merge() 1
        merge() 0
        count(2) 1
        count(3) 1
        refresh() 1
        count(1) 0
        flush() 0
        rule(0, true) true
        put(0, 30) 0
        add(-1) 3
        flush() 1
        member(0, 8, false) true
        count(10) 1
        count(20) 769
        refresh() 2
        count(3) 2
        value(0, 3, 0) 30
        value(0, 2, 0) 0
        clear() 0
        count(0) 4
        """;

    private static final String REFUSED = "member(-1, 8, true)" + Calls.WRONG + "member(16, 8, true)" + Calls.WRONG + "member(0, 7, true)"
        + Calls.WRONG + "member(0, 16, false)" + Calls.WRONG
        + "member(8, 8, true)" + Calls.WRONG + "member(9, 9, false)" + Calls.WRONG + "member(32, 40, false)" + Calls.WRONG
        + "level(-1, 0, 3)" + Calls.WRONG + "level(2, 0, 3)" + Calls.WRONG + "level(0, -1, 3)" + Calls.WRONG + "level(0, 3, 3)"
        + Calls.WRONG + "level(1, 8, 3)" + Calls.WRONG
        + "level(0, 0, 4)" + Calls.WRONG + "level(0, 1, -1)" + Calls.WRONG + "level(1, 0, 4)" + Calls.WRONG + "level(1, 0, -1)"
        + Calls.WRONG
        + "weigh(-1, 0, 9.0)" + Calls.WRONG + "weigh(3, 0, 9.0)" + Calls.WRONG + "weigh(0, -1, 9.0)" + Calls.WRONG + "weigh(0, 8, 9.0)"
        + Calls.WRONG + "weigh(1, -8, 9.0)" + Calls.WRONG
        + "weigh(0, 0, -1.0)" + Calls.WRONG + "weigh(0, 0, 1001.0)" + Calls.WRONG + "weigh(0, 1, 1e-31)" + Calls.WRONG + "weigh(1, 7, NaN)"
        + Calls.WRONG
        + "put(-1, 99)" + Calls.WRONG + "put(3, 99)" + Calls.WRONG
        + "rule(-1, true)" + Calls.WRONG + "rule(16, true)" + Calls.WRONG + "rule(32, true)" + Calls.WRONG + "rule(32, false)" + Calls.WRONG
        + "rule(16, false)" + Calls.WRONG
        + "add(-2)" + Calls.WRONG + "add(40)" + Calls.WRONG + "add(2147483647)" + Calls.WRONG
        + "remove(-1)" + Calls.GONE + "remove(40)" + Calls.GONE + "remove(64)" + Calls.GONE + "remove(66)" + Calls.GONE
        + "clause(-1, 0, 0, 1.0)" + Calls.WRONG + "clause(3, 0, 0, 1.0)" + Calls.WRONG + "clause(2, -1, 0, 1.0)" + Calls.WRONG
        + "clause(0, 8, 0, 1.0)" + Calls.WRONG
        + "clause(1, 0, -1, 1.0)" + Calls.WRONG + "clause(0, 0, 3, 1.0)" + Calls.WRONG + "clause(0, 0, 0, 1001.0)" + Calls.WRONG
        + "clause(2, 0, 0, -1.0)" + Calls.WRONG + "clause(1, 5, 0, 1e-31)" + Calls.WRONG
        + "search(-1, 1)" + Calls.WRONG + "search(8, 1)" + Calls.WRONG + "search(0, 0)" + Calls.WRONG + "search(0, 9)" + Calls.WRONG
        + "search(1, -1)" + Calls.WRONG
        + "hit(-1)" + Calls.NO_HIT + "hit(8)" + Calls.NO_HIT + "score(-1)" + Calls.NO_HIT + "score(8)" + Calls.NO_HIT
        + "value(-1, 0, 0)" + Calls.WRONG + "value(8, 0, 0)" + Calls.WRONG + "value(0, 0, 3)" + Calls.WRONG + "value(0, -1, 0)" + Calls.GONE
        + "value(0, 40, 0)" + Calls.GONE + "value(0, 64, 0)" + Calls.GONE
        + "count(-1)" + Calls.WRONG + "count(9)" + Calls.WRONG + "count(18)" + Calls.WRONG + "count(28)" + Calls.WRONG;

    private static final String REFUSED_WHERE_ALL_IS_FULL = "add(-1)" + Calls.FULL + "add(39)" + Calls.FULL + "flush()" + Calls.FULL
        + "clause(0, 0, 0, 9.0)" + Calls.FULL + "clause(2, 0, 0, 9.0)" + Calls.FULL
        + "remove(0)" + Calls.GONE + "remove(39)" + Calls.GONE;

    public static void main(String[] args) {
        Run.all(RefusedTest.class);
    }

    static void theRunHoldsByItself(Run run) {
        run.check(SHOWS_ALL);
    }

    static void anArgumentThatIsNotAsSaid(Run run) {
        for (String refused : REFUSED.split("\n")) {
            run.check("with " + refused, SHOWS_ALL.replace("\n", "\n" + refused + "\n"));
        }
    }

    /** 40 IDs, one of them removed in a segment and one in the buffer, 6 segments and 6 clauses. */
    static void whereAllIsFull(Run run) {
        String full = Calls.segments(0, 6) + Calls.each(6, 40, "add(-1) #") + Calls.each(1, 7, "clause(0, 0, 0, 1.0) #") + "remove(0) -\n"
            + "remove(39) -\nput(0, 1) 0\nrule(0, true) true\nrefresh() 5\nsearch(0, 8) 5\n";
        String shown = """
            count(0) 40
            count(1) 33
            count(2) 6
            count(3) 6
            count(8) 5
            put(0, 2) 1
            rule(0, true) false
            hit(0) 1
            score(4) 6.0
            search(0, 1) 1
            score(0) 6.0
            count(5) 1
            """;
        for (String refused : REFUSED_WHERE_ALL_IS_FULL.split("\n")) {
            run.check("with " + refused, full + refused + "\n" + shown.replace("\n", "\n" + refused + "\n") + "clear() 6\nmerge() 1\n"
                + "flush() 33\nrefresh() 38\n");
        }
    }
}
