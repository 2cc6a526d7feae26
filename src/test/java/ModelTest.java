import java.util.TreeMap;

/** Long runs of calls on the program and on PlainModel: all answers must be the same. */
public final class ModelTest {
    private static final int RUNS = 1500;
    private static final int CALLS = 512;
    private static final double[] WEIGHTS = {0.0, 1e-30, 0.0001, 0.03, 0.1, 0.3, 0.7, 1.0, 1.1, 2.5, 3.3, 7.0, 9.99, 15.9, 16.0, 333.3, 1000.0};
    private static final double[] WRONG_WEIGHTS = {-1.0, 1e-31, 1000.1, Double.NaN, Double.POSITIVE_INFINITY, -0.0};

    private long state;
    private int terms;
    private int users;

    private ModelTest(long seed) {
        state = seed;
    }

    /** Each kind of answer must come up some times, or else the runs would compare little. */
    public static void main(String[] args) {
        TreeMap<String, Integer> answers = new TreeMap<>();
        int wrong = 0;
        for (int run = 1; run <= RUNS && wrong == 0; run++) {
            wrong += new ModelTest(run).differs(run, answers) ? 1 : 0;
        }
        boolean varied = answers.size() >= 50 && answers.values().stream().allMatch(n -> n >= 20);
        System.out.println(wrong == 0 && varied ? RUNS + " runs answer alike" : "a run differs, or some kind of answer is too rare: "
            + answers);
        System.exit(wrong == 0 && varied ? 0 : 1);
    }

    private boolean differs(int run, TreeMap<String, Integer> answers) {
        VeilSearch program = new VeilSearch();
        PlainModel model = new PlainModel();
        terms = oneIn(10) ? 8 : 1 + below(4);
        users = 1 + below(8);
        StringBuilder told = new StringBuilder();
        for (int i = 0; i < CALLS; i++) {
            String call = anyCall();
            String got = Run.answer(program, call);
            String want = Run.answer(model, call);
            told.append(call).append(' ').append(want).append('\n');
            answers.merge(kind(call, want), 1, Integer::sum);
            if (isSearch(call, want)) {
                answers.merge("search " + (model.blocks() > model.count(4) ? "passes over blocks" : "looks at all blocks"), 1, Integer::sum);
            }
            if (!got.equals(want) || isSearch(call, want) && hitsDiffer(call, want, program, model)) {
                System.out.println(told + "run " + run + ": the program answers " + got);
                return true;
            }
        }
        return false;
    }

    private static boolean isSearch(String call, String answer) {
        return call.startsWith("search") && !answer.startsWith("throws");
    }

    private static boolean hitsDiffer(String call, String size, VeilSearch program, PlainModel model) {
        StringBuilder ids = new StringBuilder();
        for (int i = 0; i < Integer.parseInt(size); i++) {
            ids.append(i == 0 ? "" : " ").append(program.hit(i));
            if (program.score(i) != model.score(i)) {
                return true;
            }
        }
        boolean countsDiffer = program.count(4) != model.count(4) || program.count(5) != model.count(5);
        return countsDiffer || !ids.toString().equals(model.hitsWithoutBlocks(call.charAt(7) - '0', call.charAt(10) - '0'));
    }

    private static String kind(String call, String answer) {
        String name = call.substring(0, call.indexOf('('));
        if (answer.startsWith("throws")) {
            return name + " " + answer;
        }
        return name + (answer.equals("0") || answer.equals("false") || answer.equals("0.0") ? " nothing" : " something");
    }

    /** Bits of a linear congruence: the same runs each time. */
    private int below(int end) {
        state = state * 6364136223846793005L + 1442695040888963407L;
        return (int) ((state >>> 33) % end);
    }

    private boolean oneIn(int n) {
        return below(n) == 0;
    }

    /** Mostly a number from 0 to end - 1, at times one just outside. */
    private int number(int from, int end) {
        return oneIn(60) ? (oneIn(2) ? from - 1 : end) : from + below(end - from);
    }

    private double weight() {
        return oneIn(40) ? WRONG_WEIGHTS[below(WRONG_WEIGHTS.length)] : oneIn(3) ? below(256) / 16.0 : WEIGHTS[below(WEIGHTS.length)];
    }

    private String anyCall() {
        int roll = below(100);
        if (roll < 20) {
            return "weigh(" + number(0, 3) + ", " + number(0, terms) + ", " + weight() + ")";
        }
        if (roll < 30) {
            return oneIn(2) ? "rule(8, true)" : "rule(" + number(0, 16) + ", " + !oneIn(6) + ")";
        }
        if (roll < 42) {
            return "add(" + (oneIn(2) ? -1 : number(-1, 3 + below(38))) + ")";
        }
        if (roll < 62) {
            return "search(" + number(0, users) + ", " + number(1, 9) + ")";
        }
        if (roll < 72) {
            return oneIn(6) ? "clear()" : "clause(" + (oneIn(4) ? number(0, 3) : 0) + ", " + number(0, terms) + ", " + number(0, 3) + ", "
                + weight() + ")";
        }
        return rarerCall(roll);
    }

    private String rarerCall(int roll) {
        if (roll < 75) {
            return "flush()";
        }
        if (roll < 78) {
            return "refresh()";
        }
        if (roll < 81) {
            return oneIn(3) ? "member(" + number(0, 8) + ", 8, true)" : "member(" + number(0, 16) + ", " + number(8, 16) + ", " + !oneIn(3)
                + ")";
        }
        if (roll < 82) {
            return oneIn(3) ? "merge()" : "remove(" + number(0, 40) + ")";
        }
        if (roll < 83) {
            return oneIn(2) ? "level(1, " + number(0, 8) + ", " + number(0, 4) + ")" : "level(" + number(0, 2) + ", " + number(0, 3) + ", "
                + below(2) + ")";
        }
        if (roll < 86) {
            return "put(" + number(0, 3) + ", " + (below(2000) - 1000) + ")";
        }
        if (roll < 90) {
            return "value(" + number(0, users) + ", " + number(0, 1 + below(40)) + ", " + number(0, 3) + ")";
        }
        if (roll < 94) {
            return (oneIn(2) ? "hit(" : "score(") + number(0, oneIn(3) ? 8 : 2) + ")";
        }
        return "count(" + (oneIn(2) ? number(0, 9) : 10 * (1 + below(2)) + number(0, 8)) + ")";
    }
}
