/** Promises 9 to 16: measures of runs and of systems. */
public final class MeasuresTest {
    private static final Check check = new Check();

    public static void main(String[] args) {
        hitsCountTheRunAsItStands();
        hitsCountOnlyWhatIsJudgedRelevant();
        precisionWithoutTies();
        precisionAveragesTies();
        precisionOfAShortRun();
        precisionOfTwentyTied();
        reciprocalWithoutTies();
        reciprocalAveragesTies();
        reciprocalBehindOtherTies();
        reciprocalOfTwentyTied();
        meanIsOverRunsThatAreNotEmpty();
        meanOfEightQuestions();
        bestIsTheGreatestMean();
        bestOfSeveralIsTheLowest();
        bestComparesExactly();
        wrongArguments();
        check.end();
    }

    private static void fill(JudgedRuns bench, int system, int question, int[] documents, int[] scores) {
        for (int place = 0; place < documents.length; place++) {
            bench.append(system, question, documents[place], scores[place]);
        }
    }

    private static void relevant(JudgedRuns bench, int question, int... documents) {
        for (int document : documents) {
            bench.judge(question, document, JudgedRuns.RELEVANT);
        }
    }

    private static void duePrecision(JudgedRuns bench, int system, int question, int depth,
            long numerator, long denominator) {
        check.due("precision(" + system + ", " + question + ", " + depth + ")", numerator, denominator,
                bench.precisionNumerator(system, question, depth),
                bench.precisionDenominator(system, question, depth));
    }

    private static void dueReciprocal(JudgedRuns bench, int system, int question,
            long numerator, long denominator) {
        check.due("reciprocal(" + system + ", " + question + ")", numerator, denominator,
                bench.reciprocalNumerator(system, question),
                bench.reciprocalDenominator(system, question));
    }

    private static void dueMean(JudgedRuns bench, int system, int depth, long numerator, long denominator) {
        check.due("mean(" + system + ", " + depth + ")", numerator, denominator,
                bench.meanNumerator(system, depth), bench.meanDenominator(system, depth));
    }

    private static void hitsCountTheRunAsItStands() {
        JudgedRuns bench = new JudgedRuns();
        fill(bench, 0, 0, new int[] {5, 6, 7, 8}, new int[] {9, 9, 9, 1});
        relevant(bench, 0, 6, 8, 20);
        int[] due = {0, 1, 1, 2, 2};
        for (int depth = 1; depth <= 5; depth++) {
            check.due("hits to " + depth, due[depth - 1], bench.hits(0, 0, depth));
        }
        check.due("hits to 20", 2, bench.hits(0, 0, 20));
        check.due("hits of an empty run", 0, bench.hits(1, 0, 20));
        check.due("hits for another question", 0, bench.hits(0, 1, 20));
    }

    private static void hitsCountOnlyWhatIsJudgedRelevant() {
        JudgedRuns bench = new JudgedRuns();
        fill(bench, 3, 7, new int[] {0, 39}, new int[] {5, 5});
        check.due("hits, none judged", 0, bench.hits(3, 7, 20));
        bench.judge(7, 0, JudgedRuns.NOT_RELEVANT);
        check.due("hits, one not relevant", 0, bench.hits(3, 7, 20));
        bench.judge(7, 39, JudgedRuns.RELEVANT);
        check.due("hits, one relevant", 1, bench.hits(3, 7, 20));
        bench.judge(7, 39, JudgedRuns.UNJUDGED);
        check.due("hits, taken back", 0, bench.hits(3, 7, 20));
        bench.judge(6, 39, JudgedRuns.RELEVANT);
        check.due("hits, relevant for another question", 0, bench.hits(3, 7, 20));
    }

    private static void precisionWithoutTies() {
        JudgedRuns bench = new JudgedRuns();
        fill(bench, 1, 2, new int[] {3, 4, 5, 6}, new int[] {9, 8, 7, 6});
        relevant(bench, 2, 4, 6);
        duePrecision(bench, 1, 2, 1, 0, 1);
        duePrecision(bench, 1, 2, 2, 1, 2);
        duePrecision(bench, 1, 2, 3, 1, 3);
        duePrecision(bench, 1, 2, 4, 1, 2);
    }

    private static void precisionAveragesTies() {
        JudgedRuns bench = new JudgedRuns();
        fill(bench, 0, 0, new int[] {5, 6, 7, 8}, new int[] {10, 10, 10, 4});
        relevant(bench, 0, 6, 8);
        duePrecision(bench, 0, 0, 1, 1, 3);
        duePrecision(bench, 0, 0, 2, 1, 3);
        duePrecision(bench, 0, 0, 3, 1, 3);
        duePrecision(bench, 0, 0, 4, 1, 2);
        relevant(bench, 0, 7);
        duePrecision(bench, 0, 0, 1, 2, 3);
        // Equal scores of another run or question are no tie.
        bench.append(1, 0, 9, 10);
        bench.append(0, 1, 9, 10);
        duePrecision(bench, 0, 0, 1, 2, 3);
        duePrecision(bench, 1, 0, 1, 0, 1);
    }

    private static void precisionOfAShortRun() {
        JudgedRuns bench = new JudgedRuns();
        duePrecision(bench, 0, 0, 20, 0, 1);
        bench.append(0, 0, 1, 0);
        duePrecision(bench, 0, 0, 20, 0, 1);
        relevant(bench, 0, 1);
        duePrecision(bench, 0, 0, 1, 1, 1);
        duePrecision(bench, 0, 0, 20, 1, 20);
        bench.append(0, 0, 2, 0);
        relevant(bench, 0, 2);
        duePrecision(bench, 0, 0, 20, 1, 10);
        duePrecision(bench, 0, 0, 3, 2, 3);
    }

    private static void precisionOfTwentyTied() {
        JudgedRuns bench = new JudgedRuns();
        for (int document = 0; document < 20; document++) {
            bench.append(2, 4, document, 1000);
        }
        for (int count = 1; count <= 20; count++) {
            relevant(bench, 4, 20 - count);
            long divisor = count % 20 == 0 ? 20 : count % 10 == 0 ? 10 : count % 5 == 0 ? 5
                    : count % 4 == 0 ? 4 : count % 2 == 0 ? 2 : 1;
            // Every place is relevant with the same chance, so the depth does not matter.
            duePrecision(bench, 2, 4, 1, count / divisor, 20 / divisor);
            duePrecision(bench, 2, 4, 13, count / divisor, 20 / divisor);
            duePrecision(bench, 2, 4, 20, count / divisor, 20 / divisor);
        }
    }

    private static void reciprocalWithoutTies() {
        JudgedRuns bench = new JudgedRuns();
        dueReciprocal(bench, 0, 0, 0, 1);
        for (int document = 0; document < 20; document++) {
            bench.append(0, 0, document, 100 - document);
        }
        dueReciprocal(bench, 0, 0, 0, 1);
        for (int document = 19; document >= 0; document--) {
            relevant(bench, 0, document);
            dueReciprocal(bench, 0, 0, 1, document + 1);
        }
    }

    private static void reciprocalAveragesTies() {
        JudgedRuns bench = new JudgedRuns();
        fill(bench, 0, 0, new int[] {5, 6, 7, 8}, new int[] {10, 10, 10, 4});
        relevant(bench, 0, 6, 8);
        dueReciprocal(bench, 0, 0, 11, 18);
        relevant(bench, 0, 7);
        dueReciprocal(bench, 0, 0, 5, 6);
        relevant(bench, 0, 5);
        dueReciprocal(bench, 0, 0, 1, 1);
        bench.judge(0, 5, JudgedRuns.NOT_RELEVANT);
        bench.judge(0, 6, JudgedRuns.UNJUDGED);
        bench.judge(0, 7, JudgedRuns.NOT_RELEVANT);
        dueReciprocal(bench, 0, 0, 1, 4);
        bench.judge(0, 8, JudgedRuns.NOT_RELEVANT);
        dueReciprocal(bench, 0, 0, 0, 1);
    }

    private static void reciprocalBehindOtherTies() {
        JudgedRuns bench = new JudgedRuns();
        fill(bench, 2, 4, new int[] {2, 3, 1, 4, 5}, new int[] {7, 7, 0, 0, 0});
        relevant(bench, 4, 5);
        // (1/3 + 1/4 + 1/5) / 3
        dueReciprocal(bench, 2, 4, 47, 180);
        relevant(bench, 4, 1);
        // (2 * 1/3 + 1 * 1/4) / 3
        dueReciprocal(bench, 2, 4, 11, 36);
    }

    private static void reciprocalOfTwentyTied() {
        JudgedRuns bench = new JudgedRuns();
        for (int document = 0; document < 20; document++) {
            bench.append(0, 0, document, 0);
        }
        relevant(bench, 0, 13);
        // The twentieth harmonic number over 20.
        dueReciprocal(bench, 0, 0, 11167027, 62078016);
        for (int document = 0; document < 20; document++) {
            relevant(bench, 0, document);
        }
        dueReciprocal(bench, 0, 0, 1, 1);
        bench.judge(0, 7, JudgedRuns.NOT_RELEVANT);
        // 19/20 * 1 + 1/20 * 1/2
        dueReciprocal(bench, 0, 0, 39, 40);
    }

    private static void meanIsOverRunsThatAreNotEmpty() {
        JudgedRuns bench = new JudgedRuns();
        dueMean(bench, 2, 5, 0, 1);
        bench.append(2, 3, 1, 0);
        relevant(bench, 3, 1);
        dueMean(bench, 2, 1, 1, 1);
        fill(bench, 2, 4, new int[] {2, 3, 1}, new int[] {7, 7, 0});
        dueMean(bench, 2, 1, 1, 2);
        relevant(bench, 4, 1);
        dueMean(bench, 2, 3, 1, 3);
        bench.judge(4, 2, JudgedRuns.RELEVANT);
        // (1 + 1/2) / 2
        dueMean(bench, 2, 1, 3, 4);
        bench.append(1, 0, 1, 0);
        dueMean(bench, 2, 1, 3, 4);
        bench.empty(2, 4);
        dueMean(bench, 2, 1, 1, 1);
        bench.empty(2, 3);
        dueMean(bench, 2, 1, 0, 1);
    }

    private static void meanOfEightQuestions() {
        JudgedRuns bench = new JudgedRuns();
        // A tie of question + 1 documents, one of them relevant, for each question.
        for (int question = 0; question < 8; question++) {
            for (int document = 0; document <= question; document++) {
                bench.append(0, question, document, 3);
            }
            relevant(bench, question, question);
        }
        // The eighth harmonic number over 8, and the hits 8 / (8 * 8).
        dueMean(bench, 0, 1, 761, 2240);
        dueMean(bench, 0, 8, 1, 8);
        dueMean(bench, 0, 20, 1, 20);
    }

    private static void bestIsTheGreatestMean() {
        JudgedRuns bench = new JudgedRuns();
        check.due("best without runs", 0, bench.best(20));
        bench.append(0, 0, 0, 5);
        bench.append(3, 0, 1, 5);
        check.due("best without relevant ones", 0, bench.best(1));
        relevant(bench, 0, 1);
        check.due("best with one hit", 3, bench.best(1));
        // System 2 has two hits, but its mean over four runs is lower.
        for (int question = 1; question < 5; question++) {
            bench.append(2, question, 0, 5);
        }
        relevant(bench, 1, 0);
        relevant(bench, 2, 0);
        check.due("best is no matter of the number of hits", 3, bench.best(1));
        bench.append(1, 0, 0, 5);
        bench.append(1, 0, 1, 5);
        check.due("best to 1", 3, bench.best(1));
        bench.append(1, 0, 2, 5);
        relevant(bench, 0, 2);
        check.due("best to 3", 1, bench.best(3));
    }

    private static void bestOfSeveralIsTheLowest() {
        JudgedRuns bench = new JudgedRuns();
        relevant(bench, 0, 1);
        relevant(bench, 1, 1);
        bench.append(3, 0, 1, 5);
        bench.append(2, 1, 1, 5);
        check.due("best of 2 and 3", 2, bench.best(4));
        bench.append(1, 1, 1, 5);
        bench.append(1, 0, 1, 5);
        check.due("best of 1, 2 and 3", 1, bench.best(4));
    }

    private static void bestComparesExactly() {
        JudgedRuns bench = new JudgedRuns();
        // 1/3 + 1/3 + 1/3 of system 1 against 1 of system 0, each over 3 runs.
        for (int question = 0; question < 3; question++) {
            relevant(bench, question, 1);
            fill(bench, 1, question, new int[] {1, 2, 3}, new int[] {5, 5, 5});
            bench.append(0, question, question == 0 ? 1 : 9, 5);
        }
        check.due("best of equals", 0, bench.best(1));
        // 1/19 against 1/20.
        JudgedRuns close = new JudgedRuns();
        relevant(close, 0, 0);
        for (int document = 0; document < 20; document++) {
            close.append(0, 0, document, 5);
            if (document < 19) {
                close.append(1, 0, document, 5);
            }
        }
        check.due("best of 1/20 and 1/19", 1, close.best(1));
    }

    private static void wrongArguments() {
        JudgedRuns bench = new JudgedRuns();
        for (int wrong : Check.outside(0, 3)) {
            check.refusesArgument("hits, system " + wrong, () -> bench.hits(wrong, 0, 1));
            check.refusesArgument("precisionNumerator, system " + wrong,
                    () -> bench.precisionNumerator(wrong, 0, 1));
            check.refusesArgument("precisionDenominator, system " + wrong,
                    () -> bench.precisionDenominator(wrong, 0, 1));
            check.refusesArgument("reciprocalNumerator, system " + wrong,
                    () -> bench.reciprocalNumerator(wrong, 0));
            check.refusesArgument("reciprocalDenominator, system " + wrong,
                    () -> bench.reciprocalDenominator(wrong, 0));
            check.refusesArgument("meanNumerator, system " + wrong, () -> bench.meanNumerator(wrong, 1));
            check.refusesArgument("meanDenominator, system " + wrong, () -> bench.meanDenominator(wrong, 1));
        }
        for (int wrong : Check.outside(0, 7)) {
            check.refusesArgument("hits, question " + wrong, () -> bench.hits(0, wrong, 1));
            check.refusesArgument("precisionNumerator, question " + wrong,
                    () -> bench.precisionNumerator(0, wrong, 1));
            check.refusesArgument("precisionDenominator, question " + wrong,
                    () -> bench.precisionDenominator(0, wrong, 1));
            check.refusesArgument("reciprocalNumerator, question " + wrong,
                    () -> bench.reciprocalNumerator(0, wrong));
            check.refusesArgument("reciprocalDenominator, question " + wrong,
                    () -> bench.reciprocalDenominator(0, wrong));
        }
        for (int wrong : Check.outside(1, 20)) {
            check.refusesArgument("hits, depth " + wrong, () -> bench.hits(0, 0, wrong));
            check.refusesArgument("precisionNumerator, depth " + wrong,
                    () -> bench.precisionNumerator(0, 0, wrong));
            check.refusesArgument("precisionDenominator, depth " + wrong,
                    () -> bench.precisionDenominator(0, 0, wrong));
            check.refusesArgument("meanNumerator, depth " + wrong, () -> bench.meanNumerator(0, wrong));
            check.refusesArgument("meanDenominator, depth " + wrong, () -> bench.meanDenominator(0, wrong));
            check.refusesArgument("best, depth " + wrong, () -> bench.best(wrong));
        }
    }
}
