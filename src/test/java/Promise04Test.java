/** Promise 4: weigh, at its bounds. */
public final class Promise04Test {
    public static void main(String[] args) {
        Run.all(Promise04Test.class);
    }

    static void aFieldIs0To2(Run run) {
        run.check("weigh(-1, 0, 1.0)" + Calls.WRONG);
        run.check("weigh(0, 0, 1.0) 16\n");
        run.check("weigh(2, 0, 1.0) 16\n");
        run.check("weigh(3, 0, 1.0)" + Calls.WRONG);
    }

    static void aTermIs0To7(Run run) {
        run.check("weigh(0, -1, 1.0)" + Calls.WRONG);
        run.check("weigh(0, 0, 1.0) 16\n");
        run.check("weigh(0, 7, 1.0) 16\n");
        run.check("weigh(0, 8, 1.0)" + Calls.WRONG);
        run.check("weigh(1, -1, 1.0)" + Calls.WRONG + "weigh(2, 8, 1.0)" + Calls.WRONG + "weigh(1, 8, 1.0)" + Calls.WRONG);
    }

    static void aWeightIsNotBelow0(Run run) {
        run.check("weigh(0, 0, 0.0) 0\n");
        run.check("weigh(0, 0, -0.0) 0\n");
        run.check("weigh(0, 0, " + -Double.MIN_VALUE + ")" + Calls.WRONG);
        run.check("weigh(0, 0, -1e-30)" + Calls.WRONG + "weigh(0, 0, -1.0)" + Calls.WRONG + "weigh(0, 0, -Infinity)" + Calls.WRONG);
    }

    static void aWeightIsNotAbove1000(Run run) {
        run.check("weigh(0, 0, " + Math.nextDown(1000.0) + ") 255\n");
        run.check("weigh(0, 0, 1000.0) 255\n");
        run.check("weigh(0, 0, " + Math.nextUp(1000.0) + ")" + Calls.WRONG);
        run.check("weigh(0, 0, " + Double.MAX_VALUE + ")" + Calls.WRONG + "weigh(0, 0, Infinity)" + Calls.WRONG);
    }

    static void aWeightAbove0IsNotBelow1e30th(Run run) {
        run.check("weigh(0, 0, 1e-30) 0\n");
        run.check("weigh(0, 0, " + Math.nextUp(1e-30) + ") 0\n");
        run.check("weigh(0, 0, " + Math.nextDown(1e-30) + ")" + Calls.WRONG);
        run.check("weigh(0, 0, " + Double.MIN_VALUE + ")" + Calls.WRONG + "weigh(0, 0, " + Double.MIN_NORMAL + ")" + Calls.WRONG);
    }

    static void notANumberIsNoWeight(Run run) {
        run.check("weigh(0, 0, NaN)" + Calls.WRONG);
    }

    static void numbersDoNotWrapAround(Run run) {
        run.check("weigh(-2147483648, 0, 1.0)" + Calls.WRONG + "weigh(2147483647, 0, 1.0)" + Calls.WRONG
            + "weigh(0, -2147483648, 1.0)" + Calls.WRONG + "weigh(0, 2147483647, 1.0)" + Calls.WRONG
            + "weigh(1, -8, 1.0)" + Calls.WRONG + "weigh(0, 16, 1.0)" + Calls.WRONG + "weigh(-1, 8, 1.0)" + Calls.WRONG);
    }

    /** (c - 0.5) / 16 is the least float that is cut to c; code 1 has a test of its own, as the float just below is rounded up to it. */
    static void theLeastWeightOfEachCode(Run run) {
        StringBuilder calls = new StringBuilder();
        for (int c = 2; c <= 255; c++) {
            float least = (c - 0.5f) / 16;
            calls.append("weigh(0, 0, ").append((double) least).append(") ").append(c).append('\n');
            calls.append("weigh(0, 0, ").append((double) Math.nextDown(least)).append(") ").append(c - 1).append('\n');
        }
        run.check(calls.toString());
    }

    static void theLeastWeightOfCode1(Run run) {
        run.check("weigh(0, 0, 0.03125) 1\n");
        run.check("weigh(0, 0, " + (double) Math.nextDown(0.03125f) + ") 1\n");
        run.check("weigh(0, 0, " + (double) Math.nextDown(Math.nextDown(0.03125f)) + ") 0\n");
    }

    static void aWeightIsAFloatBeforeItIsCut(Run run) {
        for (int c = 1; c <= 255; c++) {
            run.check("weigh(0, 0, " + Math.nextDown((c - 0.5) / 16) + ") " + c);
        }
    }

    static void aCodeIsAtMost255(Run run) {
        run.check("weigh(0, 0, 15.9375) 255\n");
        run.check("weigh(0, 0, " + (double) Math.nextDown(15.96875f) + ") 255\n");
        run.check("weigh(0, 0, 15.96875) 255\nweigh(0, 0, 16.0) 255\nweigh(0, 0, 16.5) 255\nweigh(0, 0, 31.96875) 255\n"
            + "weigh(0, 0, 1000.0) 255\n");
    }

    static void eachTermOfEachFieldForItself(Run run) {
        StringBuilder calls = new StringBuilder("rule(0, true) true\n");
        for (int place = 0; place < 24; place++) {
            calls.append("weigh(").append(place / 8).append(", ").append(place % 8).append(", ").append(place
                + 1).append(".0) ").append(Math.min(255, 16 * place + 16)).append('\n');
        }
        calls.append("add(-1) 0\nflush() 1\nrefresh() 1\n");
        for (int place = 0; place < 24; place++) {
            calls.append("clause(0, ").append(place % 8).append(", ").append(place / 8).append(", 1.0) 1\nsearch(0, 1) 1\nscore(0) ");
            calls.append(Math.min(255, 16 * place + 16) / 16.0).append("\nclear() 1\n");
        }
        run.check(calls.toString());
    }

    static void aCodeOf0IsNoneAgain(Run run) {
        run.check("rule(0, true) true\nweigh(0, 0, 5.0) 80\nweigh(0, 0, 0.0) 0\nadd(-1) 0\nflush() 1\nrefresh() 1\nclause(0, 0, 0, 1.0) 1\n"
            + "search(0, 1) 0\n");
    }

    static void aRefusedCallChangesNoCode(Run run) {
        run.check("rule(0, true) true\nweigh(0, 0, 2.0) 32\nweigh(0, 0, " + Math.nextUp(1000.0) + ")" + Calls.WRONG + "weigh(0, 0, -1.0)"
            + Calls.WRONG
            + "weigh(0, 0, 1e-31)" + Calls.WRONG + "weigh(0, 8, 1.0)" + Calls.WRONG + "weigh(3, 0, 1.0)" + Calls.WRONG + "weigh(1, -8, 1.0)"
            + Calls.WRONG
            + "add(-1) 0\nflush() 1\nrefresh() 1\nclause(0, 0, 0, 1.0) 1\nclause(0, 0, 1, 1.0) 2\nsearch(0, 1) 1\nscore(0) 2.0\n");
    }
}
