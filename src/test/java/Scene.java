import java.util.ArrayList;
import java.util.HashMap;
import java.util.List;
import java.util.Map;

/**
 * A bench in which every kind of state stands, made by the same calls each time: a full run, short
 * ones, ties, judgements, a crossed list with clicks. It tells whether a refused call changed
 * something, by reading one such bench with that call and one without it.
 */
final class Scene {
    interface Call {
        long on(JudgedRuns bench);
    }

    /** No object is used for more than 512 calls, so all that can be read is read in parts. */
    private static final int PARTS = 6;

    /** For each run: system, question, and then documents with their scores. */
    private static final int[][] SHORT_RUNS = {
        {1, 0, 20, 10, 3, 10, 0, 10, 39, 10},
        {3, 0, 7, 9, 39, 8},
        {1, 3, 12, 1000},
        {0, 7, 39, 3, 38, 2, 37, 1},
        {3, 7, 0, 0, 39, 0},
    };

    private static final int[][] JUDGEMENTS = {
        {0, 0, 2}, {0, 3, 2}, {0, 19, 2}, {0, 39, 2}, {0, 7, 1}, {0, 20, 1},
        {7, 39, 2}, {7, 0, 1}, {3, 12, 2}, {3, 11, 2}, {3, 11, 0},
    };

    private static final Map<Integer, List<Long>> untouched = new HashMap<>();

    /**
     * Run 0 of question 0 has the documents 0 to 19: five tied, ten with scores of their own, five
     * tied. The list is 0, 20, 1, 3, 2, 39, 4, given by 0, 1, 0, 1, 0, 1, 0, with clicks at 2, 5, 6.
     */
    static JudgedRuns made() {
        JudgedRuns bench = new JudgedRuns();
        for (int place = 0; place < 20; place++) {
            bench.append(0, 0, place, place < 5 ? 1000 : place < 15 ? 500 - place : 0);
        }
        for (int[] run : SHORT_RUNS) {
            for (int place = 2; place < run.length; place += 2) {
                bench.append(run[0], run[1], run[place], run[place + 1]);
            }
        }
        bench.append(2, 4, 1, 1);
        bench.empty(2, 4);
        for (int[] judgement : JUDGEMENTS) {
            bench.judge(judgement[0], judgement[1], judgement[2]);
        }
        bench.cross(0, 1, 0, 7);
        bench.click(2);
        bench.click(6);
        bench.click(5);
        return bench;
    }

    static void refusesArgument(Check check, String what, Call call) {
        for (int part = 0; part < PARTS; part++) {
            JudgedRuns bench = made();
            check.refusesArgument(what, () -> call.on(bench));
            check.holds(what + " changed something", read(bench, part).equals(untouched(part)));
        }
    }

    static void refusesState(Check check, String what, Call call) {
        for (int part = 0; part < PARTS; part++) {
            JudgedRuns bench = made();
            check.refusesState(what, () -> call.on(bench));
            check.holds(what + " changed something", read(bench, part).equals(untouched(part)));
        }
    }

    private static List<Long> untouched(int part) {
        return untouched.computeIfAbsent(part, any -> read(made(), any));
    }

    private static List<Long> read(JudgedRuns bench, int part) {
        List<Long> answers = new ArrayList<>();
        switch (part) {
            case 0: readRuns(bench, answers); break;
            case 1: readLastScores(bench, answers); break;
            case 2: readJudgements(bench, answers); break;
            case 3: readPools(bench, answers); break;
            case 4: readMeasures(bench, answers); break;
            default: readList(bench, answers);
        }
        return answers;
    }

    private static void readRuns(JudgedRuns bench, List<Long> answers) {
        for (int system = 0; system < 4; system++) {
            for (int question = 0; question < 8; question++) {
                int length = bench.length(system, question);
                answers.add((long) length);
                for (int rank = 1; rank <= Math.min(length + 1, 20); rank++) {
                    answers.add((long) bench.at(system, question, rank));
                }
            }
        }
    }

    /** The last score of a run shows in what it takes: a score above it is refused. */
    private static void readLastScores(JudgedRuns bench, List<Long> answers) {
        for (int system = 0; system < 4; system++) {
            for (int question = 0; question < 8; question++) {
                for (int score : new int[] {1000, 999, 11, 10, 9, 8, 4, 3, 2, 1, 0}) {
                    answers.add(answerOf(system, question, score, bench));
                }
            }
        }
    }

    private static long answerOf(int system, int question, int score, JudgedRuns bench) {
        int document = 35 - score % 12;
        return answerOf(() -> bench.append(system, question, document, score));
    }

    private static long answerOf(Check.Call call) {
        try {
            return call.answer();
        } catch (IllegalStateException exception) {
            return -2;
        } catch (IllegalArgumentException exception) {
            return -3;
        }
    }

    private static void readJudgements(JudgedRuns bench, List<Long> answers) {
        for (int question = 0; question < 8; question++) {
            for (int document = 0; document < 40; document++) {
                answers.add((long) bench.judge(question, document, JudgedRuns.UNJUDGED));
            }
        }
    }

    private static void readPools(JudgedRuns bench, List<Long> answers) {
        for (int question = 0; question < 8; question++) {
            for (int depth = 1; depth <= 20; depth++) {
                answers.add((long) bench.pool(question, depth));
                answers.add((long) bench.toJudge(question, depth));
            }
        }
    }

    private static void readMeasures(JudgedRuns bench, List<Long> answers) {
        for (int system = 0; system < 4; system++) {
            for (int question = 0; question < 8; question++) {
                answers.add(bench.precisionNumerator(system, question, 2));
                answers.add(bench.precisionDenominator(system, question, 2));
                answers.add(bench.reciprocalNumerator(system, question));
                answers.add(bench.reciprocalDenominator(system, question));
                answers.add((long) bench.hits(system, question, 20));
            }
            answers.add(bench.meanNumerator(system, 3));
            answers.add(bench.meanDenominator(system, 3));
            answers.add((long) bench.sum(system, 1, 3));
            answers.add((long) bench.test(system, 1, 3));
        }
        answers.add((long) bench.best(3));
    }

    private static void readList(JudgedRuns bench, List<Long> answers) {
        for (int rank = 0; rank <= 21; rank++) {
            int place = rank;
            answers.add(answerOf(() -> bench.crossed(place)));
        }
        for (int system = 0; system < 4; system++) {
            answers.add((long) bench.credit(system));
        }
        for (int rank = 0; rank <= 21; rank++) {
            int place = rank;
            answers.add(answerOf(() -> bench.click(place)));
        }
    }
}
