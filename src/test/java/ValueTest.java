/** Promises 17 and 18: values as a user is told them, and what is counted. */
public final class ValueTest {
    public static void main(String[] args) {
        Run.all(ValueTest.class);
    }

    private static final String ONE = """
        rule(0, true) true
        put(0, 10) 0
        put(1, 11) 0
        put(2, 12) 0
        add(-1) 0
        """;

    static void wrongNumbers(Run run) {
        run.check("17: wrong numbers", ONE + """
            flush() 1
            refresh() 1
            value(-1, 0, 0) throws.IllegalArgumentException
            value(8, 0, 0) throws.IllegalArgumentException
            value(0, 0, -1) throws.IllegalArgumentException
            value(0, 0, 3) throws.IllegalArgumentException
            value(8, 9, 3) throws.IllegalArgumentException
            value(0, -1, 0) throws.NoSuchElementException
            value(0, 1, 0) throws.NoSuchElementException
            value(0, 40, 0) throws.NoSuchElementException
            value(0, 64, 0) throws.NoSuchElementException
            value(0, 2147483647, 0) throws.NoSuchElementException
            value(0, -2147483648, 0) throws.NoSuchElementException
            value(0, -64, 0) throws.NoSuchElementException
            value(0, 0, 0) 10
            value(0, 0, 1) 11
            value(0, 0, 2) 12
            """);
    }

    static void whatIsThere(Run run) {
        run.check("17: in segments of the snapshot", ONE + """
            value(0, 0, 0) throws.NoSuchElementException
            refresh() 0
            value(0, 0, 0) throws.NoSuchElementException
            flush() 1
            value(0, 0, 0) throws.NoSuchElementException
            refresh() 1
            value(0, 0, 0) 10
            remove(0) -
            value(0, 0, 0) 10
            merge() 1
            value(0, 0, 0) 10
            refresh() 0
            value(0, 0, 0) throws.NoSuchElementException
            """);
        run.check("17: removed, but still in a segment", ONE + """
            flush() 1
            remove(0) -
            refresh() 0
            count(3) 1
            value(0, 0, 0) throws.NoSuchElementException
            """);
        run.check("17: what may be read", ONE + """
            member(3, 8, true) true
            member(8, 9, true) true
            rule(9, true) true
            rule(4, true) true
            put(0, 20) 0
            add(-1) 1
            flush() 2
            refresh() 2
            value(3, 1, 0) 20
            value(4, 1, 0) 20
            value(0, 1, 0) throws.NoSuchElementException
            value(3, 0, 0) throws.NoSuchElementException
            member(8, 9, false) true
            value(3, 1, 0) 20
            refresh() 2
            value(3, 1, 0) throws.NoSuchElementException
            """);
    }

    static void whatIsOpen(Run run) {
        run.check("17: a clearance that is not below the level", ONE + """
            flush() 1
            refresh() 1
            level(0, 0, 1) 0
            level(0, 1, 2) 0
            level(0, 2, 3) 0
            level(1, 0, 2) 0
            value(0, 0, 2) 12
            refresh() 1
            value(0, 0, 0) 10
            value(0, 0, 1) 11
            value(0, 0, 2) throws.UnsupportedOperationException
            level(1, 0, 3) 2
            value(0, 0, 2) throws.UnsupportedOperationException
            refresh() 1
            value(0, 0, 2) 12
            level(1, 0, 0) 3
            refresh() 1
            value(0, 0, 0) throws.UnsupportedOperationException
            """);
    }

    static void whichComesFirst(Run run) {
        run.check("17: what is not there or not to be read is not told to be veiled", ONE + """
            flush() 1
            level(0, 0, 1) 0
            refresh() 1
            value(0, 0, 0) throws.UnsupportedOperationException
            value(1, 0, 0) throws.NoSuchElementException
            value(0, 1, 0) throws.NoSuchElementException
            value(0, 1, 3) throws.IllegalArgumentException
            remove(0) -
            refresh() 0
            value(0, 0, 0) throws.NoSuchElementException
            """);
    }

    static void counts(Run run) {
        run.check("18: for others", """
            count(-1) throws.IllegalArgumentException
            count(9) throws.IllegalArgumentException
            count(18) throws.IllegalArgumentException
            count(19) throws.IllegalArgumentException
            count(28) throws.IllegalArgumentException
            count(2147483647) throws.IllegalArgumentException
            count(-2147483648) throws.IllegalArgumentException
            count(10) 1
            count(17) 128
            count(20) 1
            count(27) 128
            """);
        run.check("18: IDs, buffer, segments", ONE + """
            count(0) 1
            count(1) 1
            count(2) 0
            flush() 1
            count(0) 1
            count(1) 0
            count(2) 1
            count(3) 0
            refresh() 1
            count(3) 1
            remove(0) -
            merge() 1
            count(0) 1
            count(2) 0
            count(3) 1
            refresh() 0
            count(3) 0
            """);
    }
}
