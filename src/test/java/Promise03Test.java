/** Promise 3: level, at its bounds. */
public final class Promise03Test {
    public static void main(String[] args) {
        Run.all(Promise03Test.class);
    }

    static void whatIs0Or1(Run run) {
        run.check("level(-1, 0, 1)" + Calls.WRONG);
        run.check("level(0, 0, 1) 0\n");
        run.check("level(1, 0, 1) 0\n");
        run.check("level(2, 0, 1)" + Calls.WRONG);
    }

    static void aFieldIs0To2(Run run) {
        run.check("level(0, -1, 1)" + Calls.WRONG);
        run.check("level(0, 0, 1) 0\n");
        run.check("level(0, 2, 1) 0\n");
        run.check(Calls.each(3, 9, "level(0, #, 1)" + Calls.WRONG));
    }

    static void aUserIs0To7(Run run) {
        run.check("level(1, -1, 1)" + Calls.WRONG);
        run.check(Calls.each(0, 8, "level(1, #, 1) 0"));
        run.check(Calls.each(8, 17, "level(1, #, 1)" + Calls.WRONG));
    }

    static void aLevelIs0To3(Run run) {
        run.check("level(0, 0, -1)" + Calls.WRONG);
        run.check("level(0, 0, 0) 0\n");
        run.check("level(0, 0, 3) 0\n");
        run.check("level(0, 0, 4)" + Calls.WRONG);
    }

    static void aClearanceIs0To3(Run run) {
        run.check("level(1, 0, -1)" + Calls.WRONG);
        run.check("level(1, 0, 0) 0\n");
        run.check("level(1, 0, 3) 0\n");
        run.check("level(1, 0, 4)" + Calls.WRONG);
    }

    static void numbersDoNotWrapAround(Run run) {
        run.check("level(-2147483648, 0, 1)" + Calls.WRONG + "level(2147483647, 0, 1)" + Calls.WRONG
            + "level(0, -2147483648, 1)" + Calls.WRONG + "level(1, 2147483647, 1)" + Calls.WRONG
            + "level(0, 0, -2147483648)" + Calls.WRONG + "level(1, 0, 2147483647)" + Calls.WRONG
            + "level(0, 256, 1)" + Calls.WRONG + "level(0, 0, 256)" + Calls.WRONG + "level(256, 0, 1)" + Calls.WRONG);
    }

    static void whatItWasFromEachToEach(Run run) {
        StringBuilder calls = new StringBuilder();
        int was = 0;
        for (int from = 0; from < 4; from++) {
            for (int to = 0; to < 4; to++) {
                calls.append("level(0, 2, ").append(from).append(") ").append(was).append("\n"
                    + "level(0, 2, ").append(to).append(") ").append(from).append('\n');
                calls.append("level(1, 7, ").append(from).append(") ").append(was).append("\n"
                    + "level(1, 7, ").append(to).append(") ").append(from).append('\n');
                was = to;
            }
        }
        run.check(calls.toString());
    }

    static void eachFieldAndUserForItself(Run run) {
        run.check(Calls.each(0, 3, "level(0, #, #) 0") + Calls.each(0, 8, "level(1, #, 3) 0") + Calls.each(0, 3, "level(0, #, 0) #")
            + Calls.each(0, 8, "level(1, #, 0) 3"));
    }

    static void aRefusedCallChangesNothing(Run run) {
        run.check("level(0, 0, 2) 0\nlevel(1, 0, 3) 0\n"
            + "level(0, 0, 4)" + Calls.WRONG + "level(0, 0, -1)" + Calls.WRONG + "level(1, 0, 4)" + Calls.WRONG
            + "level(2, 0, 1)" + Calls.WRONG + "level(-1, 0, 1)" + Calls.WRONG + "level(0, 3, 1)" + Calls.WRONG + "level(1, 8, 1)"
            + Calls.WRONG
            + "level(0, 0, 0) 2\nlevel(1, 0, 0) 3\n" + Calls.each(1, 3, "level(0, #, 0) 0") + Calls.each(1, 8, "level(1, #, 0) 0"));
    }
}
