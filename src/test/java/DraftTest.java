/** Promises 4 to 7: THE DRAFT and how it becomes a document. */
public final class DraftTest {
    public static void main(String[] args) {
        Run.all(DraftTest.class);
    }

    static void codes(Run run) {
        run.check("4: codes", """
            weigh(0, 0, 0.0) 0
            weigh(0, 0, -0.0) 0
            weigh(0, 0, 1e-30) 0
            weigh(0, 0, 0.03) 0
            weigh(0, 0, 0.03125) 1
            weigh(0, 0, 0.09) 1
            weigh(0, 0, 0.09375) 2
            weigh(0, 7, 1.0) 16
            weigh(2, 0, 1.03) 16
            weigh(2, 7, 1.04) 17
            weigh(1, 3, 15.875) 254
            weigh(1, 3, 15.9) 254
            weigh(1, 3, 15.90625) 255
            weigh(1, 3, 15.96) 255
            weigh(1, 3, 15.97) 255
            weigh(1, 3, 16.0) 255
            weigh(1, 3, 1000) 255
            """);
        run.check("4: in floats, where doubles would stay below", """
            weigh(0, 0, 0.03124999813735485) 1
            weigh(0, 0, 0.031249999999) 1
            weigh(0, 0, 0.03124999627470970) 0
            weigh(0, 0, 0.09374999999) 2
            weigh(0, 0, 15.9062499) 255
            """);
    }

    static void wrongWeights(Run run) {
        run.check("4: wrong numbers", """
            weigh(-1, 0, 1.0) throws.IllegalArgumentException
            weigh(3, 0, 1.0) throws.IllegalArgumentException
            weigh(0, -1, 1.0) throws.IllegalArgumentException
            weigh(0, 8, 1.0) throws.IllegalArgumentException
            weigh(0, 0, -0.125) throws.IllegalArgumentException
            weigh(0, 0, -1e-300) throws.IllegalArgumentException
            weigh(0, 0, 1000.0000000000001) throws.IllegalArgumentException
            weigh(0, 0, 4e9) throws.IllegalArgumentException
            weigh(0, 0, 9.999999999999999e-31) throws.IllegalArgumentException
            weigh(0, 0, 4.9e-324) throws.IllegalArgumentException
            weigh(0, 0, Infinity) throws.IllegalArgumentException
            weigh(0, 0, -Infinity) throws.IllegalArgumentException
            weigh(0, 0, NaN) throws.IllegalArgumentException
            """);
        run.check("4: a wrong one changes nothing", """
            rule(0, true) true
            weigh(0, 0, 2.0) 32
            weigh(0, 0, 1001) throws.IllegalArgumentException
            weigh(3, 0, 1.0) throws.IllegalArgumentException
            add(-1) 0
            flush() 1
            refresh() 1
            clause(0, 0, 0, 1.0) 1
            search(0, 1) 1
            score(0) 2.0
            """);
    }

    static void latestCode(Run run) {
        run.check("4: the latest weight counts, each term and field for itself", """
            rule(0, true) true
            weigh(0, 0, 2.0) 32
            weigh(0, 0, 1.0) 16
            weigh(2, 7, 3.0) 48
            weigh(1, 7, 5.0) 80
            weigh(1, 7, 0.0) 0
            add(-1) 0
            flush() 1
            refresh() 1
            clause(0, 0, 0, 1.0) 1
            search(0, 1) 1
            score(0) 1.0
            clear() 1
            clause(0, 7, 2, 1.0) 1
            search(0, 1) 1
            score(0) 3.0
            clear() 1
            clause(0, 7, 1, 1.0) 1
            search(0, 1) 0
            clear() 1
            clause(0, 0, 2, 1.0) 1
            search(0, 1) 0
            clear() 1
            clause(0, 7, 0, 1.0) 1
            search(0, 1) 0
            """);
    }

    static void values(Run run) {
        run.check("5: what it was", """
            put(0, 7) 0
            put(0, -2147483648) 7
            put(0, 2147483647) -2147483648
            put(1, 5) 0
            put(2, 6) 0
            put(0, 1) 2147483647
            put(-1, 1) throws.IllegalArgumentException
            put(3, 1) throws.IllegalArgumentException
            put(2147483647, 1) throws.IllegalArgumentException
            rule(0, true) true
            add(-1) 0
            put(0, 9) 0
            put(1, 9) 0
            put(2, 9) 0
            flush() 1
            refresh() 1
            value(0, 0, 0) 1
            value(0, 0, 1) 5
            value(0, 0, 2) 6
            """);
    }

    static void rules(Run run) {
        run.check("6: whether it changes something", """
            rule(0, true) true
            rule(0, true) false
            rule(0, false) true
            rule(0, false) false
            rule(0, true) false
            rule(15, false) true
            rule(15, false) false
            rule(15, true) true
            rule(16, true) throws.IllegalArgumentException
            rule(16, false) throws.IllegalArgumentException
            rule(-1, true) throws.IllegalArgumentException
            rule(32, true) throws.IllegalArgumentException
            add(-1) 0
            rule(0, true) true
            rule(0, false) true
            """);
        run.check("6: a token that is allowed and denied is denied, and still one that is allowed", """
            rule(1, true) true
            rule(2, true) true
            add(-1) 0
            rule(1, true) true
            rule(1, false) true
            add(0) 1
            flush() 2
            refresh() 2
            value(1, 0, 0) 0
            value(2, 0, 0) 0
            value(1, 1, 0) throws.NoSuchElementException
            value(2, 1, 0) throws.NoSuchElementException
            """);
    }

    static void parents(Run run) {
        run.check("7: parents", """
            add(-2) throws.IllegalArgumentException
            add(0) throws.IllegalArgumentException
            add(2147483647) throws.IllegalArgumentException
            add(-1) 0
            add(1) throws.IllegalArgumentException
            add(0) 1
            add(0) 2
            remove(1) -
            add(1) 3
            flush() 3
            add(2) 4
            add(5) throws.IllegalArgumentException
            add(-2147483648) throws.IllegalArgumentException
            count(0) 5
            count(1) 1
            """);
        run.check("7: denials of all parents count, and what the first with any allows", """
            member(2, 9, true) true
            member(1, 9, true) true
            rule(0, true) true
            rule(9, true) true
            rule(3, false) true
            add(-1) 0
            add(0) 1
            rule(3, true) true
            rule(4, true) true
            rule(2, false) true
            add(1) 2
            rule(9, true) true
            add(2) 3
            add(3) 4
            add(-1) 5
            flush() 6
            refresh() 6
            value(0, 0, 0) 0
            value(0, 1, 0) 0
            value(2, 1, 0) 0
            value(3, 1, 0) throws.NoSuchElementException
            value(0, 2, 0) throws.NoSuchElementException
            value(3, 2, 0) throws.NoSuchElementException
            value(4, 2, 0) 0
            value(1, 2, 0) throws.NoSuchElementException
            value(1, 3, 0) 0
            value(2, 3, 0) throws.NoSuchElementException
            value(4, 3, 0) throws.NoSuchElementException
            value(1, 4, 0) 0
            value(2, 4, 0) throws.NoSuchElementException
            value(0, 4, 0) throws.NoSuchElementException
            value(0, 5, 0) throws.NoSuchElementException
            """);
        run.check("7: what removed parents allow and deny stays, also behind merge", """
            rule(0, true) true
            rule(1, true) true
            add(-1) 0
            rule(1, false) true
            add(0) 1
            remove(0) -
            flush() 1
            remove(1) -
            merge() 1
            add(1) 2
            add(0) 3
            flush() 2
            refresh() 2
            value(0, 2, 0) 0
            value(1, 2, 0) throws.NoSuchElementException
            value(1, 3, 0) 0
            value(2, 3, 0) throws.NoSuchElementException
            """);
    }

    static void draftAnew(Run run) {
        run.check("7: the draft is empty behind add, not behind one that throws", """
            rule(0, true) true
            put(0, 4) 0
            weigh(0, 0, 1.0) 16
            add(3) throws.IllegalArgumentException
            rule(0, true) false
            put(0, 5) 4
            add(-1) 0
            put(0, 0) 0
            rule(0, true) true
            add(-1) 1
            flush() 2
            refresh() 2
            clause(0, 0, 0, 1.0) 1
            search(0, 8) 1
            hit(0) 0
            value(0, 0, 0) 5
            value(0, 1, 0) 0
            """);
    }

    static void fortyIds(Run run) {
        StringBuilder calls = new StringBuilder();
        for (int id = 0; id < 40; id++) {
            calls.append("rule(5, true) true\nput(1, ").append(id).append(") 0\nadd(").append(id - 1).append(") ").append(id).append('\n');
        }
        run.check("7: 40 IDs in all", calls + """
            rule(5, true) true
            put(1, 77) 0
            weigh(2, 7, 1.0) 16
            add(-1) throws.IllegalStateException
            add(39) throws.IllegalStateException
            add(40) throws.IllegalArgumentException
            add(-2) throws.IllegalArgumentException
            put(1, 78) 77
            count(0) 40
            count(1) 40
            remove(39) -
            remove(40) throws.NoSuchElementException
            add(-1) throws.IllegalStateException
            flush() 39
            refresh() 39
            value(5, 38, 1) 38
            value(5, 39, 1) throws.NoSuchElementException
            value(5, 40, 1) throws.NoSuchElementException
            count(0) 40
            """);
    }
}
