/** Promise 6: rule, at its bounds. */
public final class Promise06Test {
    public static void main(String[] args) {
        Run.all(Promise06Test.class);
    }

    static void aTokenThatIsAllowedIs0To15(Run run) {
        run.check("rule(-1, true)" + Calls.WRONG);
        run.check("rule(0, true) true\n");
        run.check("rule(15, true) true\n");
        run.check("rule(16, true)" + Calls.WRONG);
    }

    static void aTokenThatIsDeniedIs0To15(Run run) {
        run.check("rule(-1, false)" + Calls.WRONG);
        run.check("rule(0, false) true\n");
        run.check("rule(15, false) true\n");
        run.check("rule(16, false)" + Calls.WRONG);
    }

    static void numbersDoNotWrapAround(Run run) {
        run.check("rule(32, true)" + Calls.WRONG + "rule(-32, true)" + Calls.WRONG + "rule(2147483647, false)" + Calls.WRONG
            + "rule(-2147483648, false)" + Calls.WRONG
            + "rule(0, true) true\nrule(0, false) true\nrule(15, true) true\n");
    }

    static void whetherItChangesSomethingForEachToken(Run run) {
        run.check(Calls.each(0, 16, "rule(#, true) true\nrule(#, true) false\nrule(#, false) true\nrule(#, false) false\n"
            + "rule(#, true) false"));
        run.check(Calls.each(0, 16, "rule(#, false) true\nrule(#, false) false\nrule(#, true) true\nrule(#, true) false\n"
            + "rule(#, false) false"));
    }

    static void allTokensAreAllowed(Run run) {
        run.check(Calls.each(0, 16, "rule(#, true) true") + "add(-1) 0\nflush() 1\nrefresh() 1\n" + Calls.each(0, 8, "value(#, 0, 0) 0"));
    }

    static void allTokensAreDenied(Run run) {
        run.check(Calls.each(0, 16, "rule(#, true) true\nrule(#, false) true") + "add(-1) 0\nflush() 1\nrefresh() 1\n"
            + Calls.each(0, 8, "value(#, 0, 0)" + Calls.GONE));
    }

    static void noTokenIsAllowed(Run run) {
        run.check("add(-1) 0\nrule(9, false) true\nadd(-1) 1\nflush() 2\nrefresh() 2\n" + Calls.each(0, 8, "value(#, 0, 0)" + Calls.GONE
            + "value(#, 1, 0)" + Calls.GONE));
    }

    static void oneTokenIsAllowed(Run run) {
        for (int token = 0; token < 8; token++) {
            run.check("rule(" + token + ", true) true\nadd(-1) 0\nflush() 1\nrefresh() 1\n" + Calls.each(0, token, "value(#, 0, 0)"
                + Calls.GONE)
                + "value(" + token + ", 0, 0) 0\n" + Calls.each(token + 1, 8, "value(#, 0, 0)" + Calls.GONE));
        }
    }

    static void oneGroupIsAllowed(Run run) {
        for (int group = 8; group < 16; group++) {
            run.check("rule(" + group + ", true) true\nadd(-1) 0\nmember(3, " + group + ", true) true\nmember(4, " + (group == 8 ? 9 : 8)
                + ", true) true\n"
                + "flush() 1\nrefresh() 1\nvalue(3, 0, 0) 0\nvalue(0, 0, 0)" + Calls.GONE + (group == 8 ? "value(4, 0, 0)"
                + Calls.GONE : ""));
        }
    }

    static void oneTokenIsDenied(Run run) {
        for (int token = 0; token < 8; token++) {
            run.check(Calls.each(0, 8, "rule(#, true) true") + "rule(" + token + ", false) true\nadd(-1) 0\nflush() 1\nrefresh() 1\n"
                + Calls.each(0, token, "value(#, 0, 0) 0") + "value(" + token + ", 0, 0)" + Calls.GONE + Calls.each(token
                + 1, 8, "value(#, 0, 0) 0"));
        }
    }

    static void aGroupThatIsDeniedIsStrongerThanAUserThatIsAllowed(Run run) {
        run.check("rule(0, true) true\nrule(1, true) true\nrule(9, false) true\nadd(-1) 0\nmember(0, 8, true) true\n"
            + "member(8, 9, true) true\nflush() 1\nrefresh() 1\n"
            + "value(0, 0, 0)" + Calls.GONE + "value(1, 0, 0) 0\n");
    }

    static void aUserThatIsDeniedIsStrongerThanAGroupThatIsAllowed(Run run) {
        run.check("rule(8, true) true\nrule(0, false) true\nadd(-1) 0\nmember(0, 8, true) true\nmember(1, 8, true) true\nflush() 1\n"
            + "refresh() 1\n"
            + "value(0, 0, 0)" + Calls.GONE + "value(1, 0, 0) 0\n");
    }

    static void aRefusedCallRulesNothing(Run run) {
        run.check("rule(16, true)" + Calls.WRONG + "rule(-1, true)" + Calls.WRONG + "rule(32, true)" + Calls.WRONG + "add(-1) 0\n"
            + "rule(0, true) true\n"
            + "rule(16, false)" + Calls.WRONG + "rule(-1, false)" + Calls.WRONG + "rule(32, false)" + Calls.WRONG + "add(-1) 1\nflush() 2\n"
            + "refresh() 2\n"
            + Calls.each(0, 8, "value(#, 0, 0)" + Calls.GONE) + "value(0, 1, 0) 0\n");
    }

    static void theDraftHasNoneBehindEachAdd(Run run) {
        run.check(Calls.each(0, 40, "rule(0, true) true\nrule(0, false) true\nrule(15, true) true\nrule(15, false) true\nadd(-1) #")
            + "rule(0, true) true\nrule(15, false) true\n");
    }
}
