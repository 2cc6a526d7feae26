/** Promise 15: hit, at its bounds. */
public final class Promise15Test {
    public static void main(String[] args) {
        Run.all(Promise15Test.class);
    }

    static void beforeAnySearchThereIsNone(Run run) {
        run.check("hit(-1)" + Calls.NO_HIT + "hit(0)" + Calls.NO_HIT + "hit(1)" + Calls.NO_HIT);
        run.check(Calls.documents(0, 1) + "flush() 1\nrefresh() 1\nclause(0, 0, 0, 1.0) 1\nhit(0)" + Calls.NO_HIT);
    }

    static void aSearchThatFoundNothingHasNone(Run run) {
        run.check("search(0, 8) 0\nhit(-1)" + Calls.NO_HIT + "hit(0)" + Calls.NO_HIT);
    }

    static void iIs0ToTheLastHit(Run run) {
        for (int n = 1; n <= 8; n++) {
            run.check(Calls.documents(0, n) + "flush() " + n + "\nrefresh() " + n + "\nclause(0, 0, 0, 1.0) 1\nsearch(0, 8) " + n + "\n"
                + "hit(-1)" + Calls.NO_HIT
                + "hit(0) 0\nhit(" + (n - 1) + ") " + (n - 1) + "\nhit(" + n + ")" + Calls.NO_HIT);
        }
    }

    static void noNinthHit(Run run) {
        run.check(Calls.documents(0, 12) + "flush() 12\nrefresh() 12\nclause(0, 0, 0, 1.0) 1\nsearch(0, 8) 8\nhit(7) 7\nhit(8)"
            + Calls.NO_HIT + "hit(9)" + Calls.NO_HIT);
    }

    static void noHitBehindK(Run run) {
        for (int k = 1; k <= 8; k++) {
            run.check(Calls.documents(0, 9) + "flush() 9\nrefresh() 9\nclause(0, 0, 0, 1.0) 1\nsearch(0, " + k + ") " + k + "\nhit("
                + (k - 1) + ") " + (k - 1) + "\nhit(" + k + ")" + Calls.NO_HIT);
        }
    }

    static void numbersDoNotWrapAround(Run run) {
        run.check(Calls.documents(0, 1) + "flush() 1\nrefresh() 1\nclause(0, 0, 0, 1.0) 1\nsearch(0, 8) 1\nhit(2147483647)" + Calls.NO_HIT
            + "hit(-2147483648)" + Calls.NO_HIT
            + "hit(8)" + Calls.NO_HIT + "hit(-8)" + Calls.NO_HIT + "hit(256)" + Calls.NO_HIT);
    }

    static void theLatestSearchAlone(Run run) {
        run.check(Calls.documents(0, 3) + "flush() 3\nrefresh() 3\nclause(0, 0, 0, 1.0) 1\nsearch(0, 8) 3\nhit(2) 2\nsearch(0, 1) 1\n"
            + "hit(0) 0\nhit(1)" + Calls.NO_HIT
            + "search(1, 8) 0\nhit(0)" + Calls.NO_HIT + "search(0, 2) 2\nhit(1) 1\nhit(2)" + Calls.NO_HIT);
    }

    static void theGreatestId(Run run) {
        run.check(Calls.each(0, 39, "add(-1) #") + Calls.documents(39, 40) + "flush() 40\nrefresh() 40\nclause(0, 0, 0, 1.0) 1\n"
            + "search(0, 1) 1\nhit(0) 39\ncount(4) 10\n");
    }
}
