/** Promise 5: put, at its bounds. */
public final class Promise05Test {
    public static void main(String[] args) {
        Run.all(Promise05Test.class);
    }

    static void aFieldIs0To2(Run run) {
        run.check("put(-1, 1)" + Calls.WRONG);
        run.check("put(0, 1) 0\n");
        run.check("put(2, 1) 0\n");
        run.check("put(3, 1)" + Calls.WRONG);
    }

    static void numbersDoNotWrapAround(Run run) {
        run.check("put(-2147483648, 1)" + Calls.WRONG + "put(2147483647, 1)" + Calls.WRONG + "put(1431655766, 1)" + Calls.WRONG);
    }

    static void aValueIsAnyInt(Run run) {
        run.check("""
            put(0, 2147483647) 0
            put(0, -2147483648) 2147483647
            put(0, -1) -2147483648
            put(0, 0) -1
            put(0, 2147483647) 0
            put(1, -2147483648) 0
            rule(0, true) true
            add(-1) 0
            flush() 1
            refresh() 1
            value(0, 0, 0) 2147483647
            value(0, 0, 1) -2147483648
            value(0, 0, 2) 0
            """);
    }

    static void eachFieldForItself(Run run) {
        run.check(Calls.each(0, 3, "put(#, 1#) 0") + Calls.each(0, 3, "put(#, 2#) 1#") + Calls.each(0, 3, "put(#, 0) 2#"));
    }

    static void aRefusedCallChangesNoValue(Run run) {
        run.check(Calls.each(0, 3, "put(#, 1#) 0") + "put(-1, 5)" + Calls.WRONG + "put(3, 5)" + Calls.WRONG
            + Calls.each(0, 3, "put(#, 1) 1#")
            + "add(-1) 0\nput(-1, 5)" + Calls.WRONG + "rule(0, true) true\nadd(-1) 1\n" + Calls.each(0, 3, "put(#, 1) 0")
            + "flush() 2\nrefresh() 2\n" + Calls.each(0, 3, "value(0, 1, #) 0"));
    }

    static void theDraftHasNoneBehindEachAdd(Run run) {
        run.check(Calls.each(0, 40, "put(0, #) 0\nput(1, -#) 0\nput(2, 7) 0\nadd(-1) #") + Calls.each(0, 3, "put(#, 1) 0"));
    }
}
