/** Promises 1 to 3, and the tokens of promise 18. */
public final class RightsTest {
    public static void main(String[] args) {
        Run.all(RightsTest.class);
    }

    static void newObject(Run run) {
        for (int what = 0; what <= 8; what++) {
            run.check("1: nothing is there", "count(" + what + ") 0");
        }
        for (int u = 0; u < 8; u++) {
            run.check("1: a user is its own token", "count(" + (10 + u) + ") " + (1 << u) + "\ncount(" + (20 + u) + ") " + (1 << u));
        }
        run.check("1: a new object", """
            flush() 0
            merge() 0
            refresh() 0
            clear() 0
            hit(0) throws.IndexOutOfBoundsException
            score(0) throws.IndexOutOfBoundsException
            remove(0) throws.NoSuchElementException
            value(0, 0, 0) throws.NoSuchElementException
            add(0) throws.IllegalArgumentException
            search(0, 1) 0
            count(4) 0
            count(6) 0
            """);
        run.check("1: a new snapshot has the fields open for all", """
            rule(0, true) true
            put(2, -5) 0
            add(-1) 0
            flush() 1
            refresh() 1
            value(0, 0, 2) -5
            """);
        run.check("1: objects do not share anything", """
            count(0) 0
            count(6) 0
            put(0, 1) 0
            rule(0, true) true
            """);
    }

    static void members(Run run) {
        run.check("2: whether it changes something", """
            member(0, 8, false) false
            member(0, 8, true) true
            member(0, 8, true) false
            member(0, 9, true) true
            count(10) 769
            member(0, 8, false) true
            member(0, 8, false) false
            count(10) 513
            count(11) 2
            member(7, 15, true) true
            count(17) 32896
            member(15, 8, true) true
            count(17) 33152
            member(8, 15, true) true
            """);
        run.check("2, 18: the snapshot knows it behind the next refresh alone", """
            member(2, 10, true) true
            count(12) 1028
            count(22) 4
            refresh() 0
            count(22) 1028
            member(2, 10, false) true
            count(12) 4
            count(22) 1028
            refresh() 0
            count(22) 4
            """);
    }

    static void wrongMembers(Run run) {
        run.check("2: wrong numbers", """
            member(-1, 8, true) throws.IllegalArgumentException
            member(16, 8, true) throws.IllegalArgumentException
            member(0, 7, true) throws.IllegalArgumentException
            member(0, 0, true) throws.IllegalArgumentException
            member(0, 16, true) throws.IllegalArgumentException
            member(0, -1, true) throws.IllegalArgumentException
            member(8, 8, true) throws.IllegalArgumentException
            member(15, 15, false) throws.IllegalArgumentException
            member(2147483647, 8, true) throws.IllegalArgumentException
            member(0, -2147483648, true) throws.IllegalArgumentException
            count(10) 1
            member(15, 14, true) true
            member(14, 15, true) true
            """);
    }

    static void closure(Run run) {
        run.check("18: a chain through all groups, upwards and downwards", """
            member(0, 15, true) true
            member(15, 14, true) true
            member(14, 13, true) true
            member(13, 12, true) true
            member(12, 11, true) true
            member(11, 10, true) true
            member(10, 9, true) true
            member(9, 8, true) true
            count(10) 65281
            member(12, 11, false) true
            count(10) 61441
            member(1, 8, true) true
            member(8, 9, true) true
            count(11) 770
            """);
        run.check("18: in circles", """
            member(8, 9, true) true
            member(9, 10, true) true
            member(10, 8, true) true
            count(13) 8
            member(3, 10, true) true
            count(13) 1800
            member(10, 8, false) true
            count(13) 1032
            """);
    }

    static void levels(Run run) {
        run.check("3: what it was", """
            level(0, 0, 3) 0
            level(0, 0, 1) 3
            level(0, 0, 1) 1
            level(0, 2, 2) 0
            level(1, 0, 2) 0
            level(1, 7, 3) 0
            level(1, 7, 0) 3
            level(0, 1, 0) 0
            level(0, 2, 0) 2
            level(1, 2, 0) 0
            level(1, 0, 0) 2
            """);
    }

    static void wrongLevels(Run run) {
        run.check("3: wrong numbers", """
            level(-1, 0, 1) throws.IllegalArgumentException
            level(2, 0, 1) throws.IllegalArgumentException
            level(0, -1, 1) throws.IllegalArgumentException
            level(0, 3, 1) throws.IllegalArgumentException
            level(1, -1, 1) throws.IllegalArgumentException
            level(1, 8, 1) throws.IllegalArgumentException
            level(0, 0, -1) throws.IllegalArgumentException
            level(0, 0, 4) throws.IllegalArgumentException
            level(1, 0, -1) throws.IllegalArgumentException
            level(1, 0, 4) throws.IllegalArgumentException
            level(0, 0, 0) 0
            level(1, 0, 0) 0
            level(1, 3, 1) 0
            """);
    }
}
