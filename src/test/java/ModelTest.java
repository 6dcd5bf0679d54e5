import java.util.Random;

/** Promises 1 to 22: many runs of calls, each answer compared with that of the Model. */
public final class ModelTest {
    private static final int CALLS_OF_AN_OBJECT = 512;
    private static final int OBJECTS = 1500;

    private static final Check check = new Check();
    private static final int[] answers = new int[22];
    private static final int[] refusedArguments = new int[22];
    private static final int[] refusedStates = new int[22];
    private static long enumerated = 0;
    private static long calculated = 0;

    private final Random random;
    private final JudgedRuns bench = new JudgedRuns();
    private final Model model = new Model();
    private final int systems;
    private final int questions;
    private final int documents;
    private final int scores;
    private final int wrongOneIn;

    private ModelTest(long seed) {
        random = new Random(seed);
        systems = 2 + random.nextInt(3);
        questions = random.nextBoolean() ? 1 + random.nextInt(2) : 8;
        documents = random.nextBoolean() ? 40 : 6 + random.nextInt(20);
        scores = random.nextInt(3) == 0 ? 1000 : 1 + random.nextInt(5);
        wrongOneIn = random.nextBoolean() ? 20 : 200;
    }

    public static void main(String[] args) {
        for (int seed = 0; seed < OBJECTS; seed++) {
            new ModelTest(seed).runCalls();
        }
        for (int promise = 2; promise <= 22; promise++) {
            int row = promise - 1;
            check.holds("promise " + promise + " has too few answers: " + answers[row], answers[row] > 1000);
            check.holds("promise " + promise + " has too few wrong arguments: " + refusedArguments[row],
                    refusedArguments[row] > 100);
            boolean hasStates = promise == 2 || promise == 19;
            check.holds("promise " + promise + " has refused states: " + refusedStates[row],
                    hasStates ? refusedStates[row] > 100 : refusedStates[row] == 0);
        }
        check.holds("too few means over all orders: " + enumerated, enumerated > 10000);
        check.holds("too few calculated means: " + calculated, calculated > 10000);
        check.end();
    }

    private void runCalls() {
        for (int call = 0; call < CALLS_OF_AN_OBJECT; call++) {
            runCall(call < 120 ? random.nextInt(3) * random.nextInt(2) : random.nextInt(40));
        }
        enumerated += model.enumerated;
        calculated += model.calculated;
    }

    private int oneOf(int low, int high) {
        if (random.nextInt(wrongOneIn) > 0) {
            return low + random.nextInt(high - low + 1);
        }
        int[] wrong = Check.outside(low, high);
        return wrong[random.nextInt(wrong.length)];
    }

    private int system() {
        return oneOf(0, 3) % (random.nextInt(30) == 0 ? 4 : systems);
    }

    private int question() {
        int question = oneOf(0, 7);
        return question > 7 || question < 0 ? question : question % questions;
    }

    private int document() {
        int document = oneOf(0, 39);
        return document > 39 || document < 0 ? document : document % documents;
    }

    private int depth() {
        return oneOf(1, random.nextBoolean() ? 20 : 5);
    }

    /** Mostly not above the last score of the run, so that runs grow long. */
    private int score(int system, int question) {
        if (random.nextInt(8) == 0) {
            return oneOf(0, 1000);
        }
        int length = lengthOrNone(system, question);
        int last = length > 0 ? lastScores[system][question] : scores;
        return last > 0 && random.nextInt(4) == 0 ? last - 1 - random.nextInt(Math.min(last, 3)) : last;
    }

    private final int[][] lastScores = new int[4][8];

    private int lengthOrNone(int system, int question) {
        boolean inRange = system >= 0 && system < 4 && question >= 0 && question < 8;
        return inRange ? model.length(system, question) : 0;
    }

    private void runCall(int kind) {
        int one = system();
        int other = system();
        int question = question();
        int document = document();
        int depth = depth();
        int rank = oneOf(1, 20);
        switch (kind) {
            case 0: case 3: case 4: case 5: case 6: case 7: append(one, question, document); break;
            case 1: case 2: case 8: case 9: judge(question, document); break;
            case 10: if (random.nextInt(3) == 0) {
                    compare(3, "empty", () -> model.empty(one, question), () -> bench.empty(one, question));
                } else {
                    append(one, question, document);
                }
                break;
            case 11: compare(4, "length", () -> model.length(one, question), () -> bench.length(one, question)); break;
            case 12: compare(5, "at", () -> model.at(one, question, rank), () -> bench.at(one, question, rank)); break;
            case 13: compare(7, "pool", () -> model.pool(question, depth), () -> bench.pool(question, depth)); break;
            case 14: case 15:
                compare(8, "toJudge", () -> model.toJudge(question, depth), () -> bench.toJudge(question, depth));
                break;
            case 16: case 17:
                compare(9, "hits", () -> model.hits(one, question, depth), () -> bench.hits(one, question, depth));
                break;
            case 18: case 19:
                compare(10, "precisionNumerator", () -> top(model.precision(one, question, depth)),
                        () -> bench.precisionNumerator(one, question, depth));
                break;
            case 20: case 21:
                compare(11, "precisionDenominator", () -> bottom(model.precision(one, question, depth)),
                        () -> bench.precisionDenominator(one, question, depth));
                break;
            case 22: case 23:
                compare(12, "reciprocalNumerator", () -> top(model.reciprocal(one, question)),
                        () -> bench.reciprocalNumerator(one, question));
                break;
            case 24: case 25:
                compare(13, "reciprocalDenominator", () -> bottom(model.reciprocal(one, question)),
                        () -> bench.reciprocalDenominator(one, question));
                break;
            case 26:
                compare(14, "meanNumerator", () -> top(model.mean(one, depth)), () -> bench.meanNumerator(one, depth));
                break;
            case 27:
                compare(15, "meanDenominator", () -> bottom(model.mean(one, depth)),
                        () -> bench.meanDenominator(one, depth));
                break;
            case 28: compare(16, "best", () -> model.best(depth), () -> bench.best(depth)); break;
            case 29: case 30:
                compare(17, "cross", () -> model.cross(one, other, question, rank),
                        () -> bench.cross(one, other, question, rank));
                break;
            case 31: case 32: compare(18, "crossed", () -> model.crossed(rank), () -> bench.crossed(rank)); break;
            case 33: case 34: case 35: compare(19, "click", () -> model.click(rank), () -> bench.click(rank)); break;
            case 36: compare(20, "credit", () -> model.credit(one), () -> bench.credit(one)); break;
            case 37: compare(21, "sum", () -> model.sum(one, other, depth), () -> bench.sum(one, other, depth)); break;
            default: compare(22, "test", () -> model.test(one, other, depth), () -> bench.test(one, other, depth));
        }
    }

    private void append(int system, int question, int document) {
        int score = score(system, question);
        boolean appended = compare(2, "append", () -> model.append(system, question, document, score),
                () -> bench.append(system, question, document, score));
        if (appended) {
            lastScores[system][question] = score;
        }
    }

    private void judge(int question, int document) {
        int judgement = random.nextInt(3) == 0 ? oneOf(0, 2) : 2;
        compare(6, "judge", () -> model.judge(question, document, judgement),
                () -> bench.judge(question, document, judgement));
    }

    private static long top(Fraction fraction) {
        return fraction.numerator.longValueExact();
    }

    private static long bottom(Fraction fraction) {
        return fraction.denominator.longValueExact();
    }

    /** True if the call answered, false if it threw. */
    private boolean compare(int promise, String name, Check.Call want, Check.Call got) {
        Object due = outcome(want);
        Object is = outcome(got);
        check.holds("promise " + promise + ": " + name + " answered " + is + ", due is " + due, due.equals(is));
        if (due == IllegalArgumentException.class) {
            refusedArguments[promise - 1]++;
        } else if (due == IllegalStateException.class) {
            refusedStates[promise - 1]++;
        } else {
            answers[promise - 1]++;
        }
        return due instanceof Long;
    }

    private static Object outcome(Check.Call call) {
        try {
            return call.answer();
        } catch (RuntimeException exception) {
            return exception.getClass();
        }
    }
}
