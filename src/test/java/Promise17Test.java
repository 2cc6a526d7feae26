/** Promise 17: value, at its bounds. */
public final class Promise17Test {
    private static final String ONE = "rule(0, true) true\nput(0, 10) 0\nput(1, 11) 0\nput(2, 12) 0\nadd(-1) 0\n";
    private static final String SEEN = "flush() 1\nrefresh() 1\n";

    public static void main(String[] args) {
        Run.all(Promise17Test.class);
    }

    static void uIs0To7(Run run) {
        String all = Calls.each(0, 8, "rule(#, true) true") + "put(0, 9) 0\nadd(-1) 0\n" + SEEN;
        run.check(all + "value(-1, 0, 0)" + Calls.WRONG);
        run.check(all + "value(0, 0, 0) 9\n");
        run.check(all + "value(7, 0, 0) 9\n");
        run.check(all + "value(8, 0, 0)" + Calls.WRONG);
    }

    static void aFieldIs0To2(Run run) {
        run.check(ONE + SEEN + "value(0, 0, -1)" + Calls.WRONG);
        run.check(ONE + SEEN + "value(0, 0, 0) 10\n");
        run.check(ONE + SEEN + "value(0, 0, 2) 12\n");
        run.check(ONE + SEEN + "value(0, 0, 3)" + Calls.WRONG);
    }

    static void anIdThatThereIs(Run run) {
        run.check(ONE + SEEN + "value(0, -1, 0)" + Calls.GONE);
        run.check(ONE + SEEN + "value(0, 0, 0) 10\n");
        run.check(ONE + SEEN + "value(0, 1, 0)" + Calls.GONE);
    }

    static void theLastOf40Ids(Run run) {
        run.check(Calls.each(0, 40, "rule(0, true) true\nput(2, #) 0\nadd(-1) #") + "flush() 40\nrefresh() 40\nvalue(0, 0, 2) 0\n"
            + "value(0, 39, 2) 39\nvalue(0, 40, 2)" + Calls.GONE);
    }

    static void theDraftIsNotThere(Run run) {
        run.check(ONE + SEEN + "rule(0, true) true\nput(0, 20) 0\nvalue(0, 1, 0)" + Calls.GONE);
    }

    static void numbersDoNotWrapAround(Run run) {
        run.check(ONE + SEEN + "value(0, 64, 0)" + Calls.GONE + "value(0, -64, 0)" + Calls.GONE + "value(0, 32, 0)" + Calls.GONE
            + "value(0, 2147483647, 0)" + Calls.GONE + "value(0, -2147483648, 0)" + Calls.GONE
            + "value(-2147483648, 0, 0)" + Calls.WRONG + "value(2147483647, 0, 0)" + Calls.WRONG + "value(32, 0, 0)" + Calls.WRONG
            + "value(0, 0, -2147483648)" + Calls.WRONG + "value(0, 0, 2147483647)" + Calls.WRONG);
    }

    static void inTheBufferItIsNotThere(Run run) {
        run.check(ONE + "value(0, 0, 0)" + Calls.GONE + "refresh() 0\nvalue(0, 0, 0)" + Calls.GONE);
    }

    static void inASegmentThatTheSnapshotHasNotItIsNotThere(Run run) {
        run.check(ONE + "flush() 1\nvalue(0, 0, 0)" + Calls.GONE + "refresh() 1\nvalue(0, 0, 0) 10\n");
    }

    static void removedThereItIsNotThere(Run run) {
        run.check(ONE + "flush() 1\nremove(0) -\nrefresh() 0\nvalue(0, 0, 0)" + Calls.GONE);
    }

    static void removedBehindTheRefreshItIsThere(Run run) {
        run.check(ONE + SEEN + "remove(0) -\nvalue(0, 0, 0) 10\nmerge() 1\nvalue(0, 0, 0) 10\nrefresh() 0\nvalue(0, 0, 0)" + Calls.GONE);
    }

    static void whereItMayNotBeReadItIsNotThere(Run run) {
        run.check(ONE + SEEN + Calls.each(1, 8, "value(#, 0, 0)" + Calls.GONE));
    }

    static void whoMayReadIsOfTheSnapshot(Run run) {
        run.check("rule(8, true) true\nadd(-1) 0\n" + SEEN + "member(0, 8, true) true\nvalue(0, 0, 0)" + Calls.GONE
            + "refresh() 1\nvalue(0, 0, 0) 0\nmember(0, 8, false) true\nvalue(0, 0, 0) 0\nrefresh() 1\nvalue(0, 0, 0)" + Calls.GONE);
    }

    static void aClearanceBelowTheLevelDoesNotOpenTheField(Run run) {
        for (int level = 0; level < 4; level++) {
            for (int clearance = 0; clearance < 4; clearance++) {
                run.check(ONE + "level(0, 1, " + level + ") 0\nlevel(1, 0, " + clearance + ") 0\n" + SEEN + "value(0, 0, 1)"
                    + (clearance < level ? Calls.VEILED : " 11\n") + "value(0, 0, 0) 10\nvalue(0, 0, 2) 12\n");
            }
        }
    }

    static void whatIsOpenIsOfTheSnapshot(Run run) {
        run.check(ONE + SEEN + "level(0, 0, 1) 0\nvalue(0, 0, 0) 10\nrefresh() 1\nvalue(0, 0, 0)" + Calls.VEILED + "level(1, 0, 1) 0\n"
            + "value(0, 0, 0)" + Calls.VEILED + "refresh() 1\nvalue(0, 0, 0) 10\n");
    }

    /** Arguments are looked at first, and a veiled field is told of just to those who may read the document. */
    static void whichOfSeveralIsThrown(Run run) {
        run.check(ONE + "level(0, 0, 3) 0\n" + SEEN + "value(8, 1, 0)" + Calls.WRONG + "value(0, 1, 3)" + Calls.WRONG + "value(1, 0, 3)"
            + Calls.WRONG
            + "value(0, 1, 0)" + Calls.GONE + "value(1, 0, 0)" + Calls.GONE + "value(0, 0, 0)" + Calls.VEILED + "remove(0) -\nrefresh() 0\n"
            + "value(0, 0, 0)" + Calls.GONE);
    }
}
