/** Promise 2: member, at its bounds. */
public final class Promise02Test {
    public static void main(String[] args) {
        Run.all(Promise02Test.class);
    }

    static void mIs0To15(Run run) {
        run.check("member(-1, 8, true)" + Calls.WRONG);
        run.check("member(0, 8, true) true\n");
        run.check("member(15, 8, true) true\n");
        run.check("member(16, 8, true)" + Calls.WRONG);
    }

    static void gIs8To15(Run run) {
        run.check("member(0, 7, true)" + Calls.WRONG);
        run.check("member(0, 8, true) true\n");
        run.check("member(0, 15, true) true\n");
        run.check("member(0, 16, true)" + Calls.WRONG);
    }

    static void aUserIsNoGroup(Run run) {
        run.check(Calls.each(-1, 8, "member(9, #, true)" + Calls.WRONG));
    }

    static void mAndGAreNotTheSame(Run run) {
        run.check(Calls.each(8, 16, "member(#, #, true)" + Calls.WRONG + "member(#, #, false)" + Calls.WRONG));
        run.check("member(8, 9, true) true\nmember(9, 8, true) true\nmember(14, 15, true) true\nmember(15, 14, true) true\n");
    }

    static void wrongNumbersAreWrongAlsoWhereSomethingEnds(Run run) {
        run.check("member(-1, 8, false)" + Calls.WRONG + "member(16, 8, false)" + Calls.WRONG
            + "member(0, 7, false)" + Calls.WRONG + "member(0, 16, false)" + Calls.WRONG);
    }

    static void numbersDoNotWrapAround(Run run) {
        run.check("member(32, 8, true)" + Calls.WRONG + "member(-32, 8, true)" + Calls.WRONG
            + "member(0, 40, true)" + Calls.WRONG + "member(0, -24, true)" + Calls.WRONG
            + "member(2147483647, 8, true)" + Calls.WRONG + "member(-2147483648, 8, true)" + Calls.WRONG
            + "member(0, 2147483647, true)" + Calls.WRONG + "member(0, -2147483648, true)" + Calls.WRONG + "count(10) 1\n");
    }

    static void aRefusedCallJoinsNobody(Run run) {
        run.check("member(-1, 8, true)" + Calls.WRONG + "member(16, 15, true)" + Calls.WRONG + "member(0, 16, true)" + Calls.WRONG
            + "member(7, 7, true)" + Calls.WRONG + "member(8, 8, true)" + Calls.WRONG
            + "count(10) 1\ncount(17) 128\nmember(0, 8, true) true\ncount(10) 257\n");
    }

    static void whetherItChangesSomethingForEachPair(Run run) {
        StringBuilder calls = new StringBuilder();
        for (int m = 0; m < 16; m++) {
            for (int g = 8; g < 16; g++) {
                String pair = "member(" + m + ", " + g + ", ";
                calls.append(m == g ? "" : pair + "true) true\n" + pair + "true) false\n" + pair + "false) true\n" + pair
                    + "false) false\n");
            }
        }
        run.check(calls.toString());
    }

    static void onePairEndsForItself(Run run) {
        run.check(Calls.each(8, 16, "member(0, #, true) true\nmember(1, #, true) true")
            + "member(0, 8, false) true\ncount(10) 65025\ncount(11) 65282\nmember(0, 15, false) true\ncount(10) 32257\n");
    }

    static void allAreMembersOfAll(Run run) {
        StringBuilder calls = new StringBuilder();
        for (int m = 0; m < 16; m++) {
            for (int g = 8; g < 16; g++) {
                calls.append(m == g ? "" : "member(" + m + ", " + g + ", true) true\n");
            }
        }
        for (int u = 0; u < 8; u++) {
            calls.append("count(").append(10 + u).append(") ").append(0xff00 | 1 << u).append('\n');
        }
        run.check(calls.toString());
    }

    static void theLongestChainInEitherDirection(Run run) {
        run.check("member(0, 8, true) true\n" + chain(8, 15, 1) + "count(10) 65281\nmember(0, 8, false) true\ncount(10) 1\n");
        run.check("member(0, 15, true) true\n" + chain(15, 8, -1) + "count(10) 65281\nmember(0, 15, false) true\ncount(10) 1\n");
    }

    static void theWidestCircle(Run run) {
        run.check(chain(8, 15, 1) + "member(15, 8, true) true\nmember(7, 12, true) true\ncount(17) 65408\ncount(10) 1\n");
        run.check(chain(15, 8, -1) + "member(8, 15, true) true\nmember(7, 12, true) true\ncount(17) 65408\ncount(10) 1\n");
    }

    static void theSmallestCircle(Run run) {
        run.check("member(8, 9, true) true\nmember(9, 8, true) true\nmember(0, 8, true) true\nmember(1, 9, true) true\ncount(10) 769\n"
            + "count(11) 770\n");
    }

    static void membersOfAGroupAreNotTokensOfItsOtherMembers(Run run) {
        run.check("member(0, 8, true) true\nmember(1, 8, true) true\nmember(9, 8, true) true\ncount(10) 257\ncount(11) 258\n");
    }

    private static String chain(int from, int last, int step) {
        StringBuilder calls = new StringBuilder();
        for (int g = from; g != last; g += step) {
            calls.append("member(").append(g).append(", ").append(g + step).append(", true) true\n");
        }
        return calls.toString();
    }
}
