/**
 * Promises 9 to 16: a test of its own for each sentence of the document that names a boundary of the
 * measures. What is out of range is looked at by ArgumentsTest.
 */
public final class MeasureBoundariesTest {
    private static final Check check = new Check();

    /** 1 / 1 + 1 / 2 + .. + 1 / 20 over 20: one relevant document among twenty tied ones. */
    private static final long HARMONIC_TOP = 11167027L, HARMONIC_BOTTOM = 62078016L;

    public static void main(String[] args) {
        hitsOfAnEmptyRun();
        hitsOfTheFirstOnes();
        hitsOfAShorterRun();
        hitsOfAFullRun();
        hitsOfTheRunAsItStands();
        whatIsNotJudgedIsNotRelevant();
        precisionOfAnEmptyRun();
        precisionOfOneOrder();
        precisionOfAShorterRun();
        precisionOfAFullRun();
        precisionOfATieThatTheDepthCuts();
        precisionOfATieThatTheDepthEndsWith();
        precisionOfAWholeTie();
        sameScoresOfOtherRunsAreNoTie();
        reciprocalOfAnEmptyRun();
        reciprocalWithoutRelevantOnes();
        reciprocalOfOneOrder();
        reciprocalOfOneAmongTied();
        reciprocalOfAllTied();
        reciprocalOfTheLastRanks();
        reciprocalOfTheFirstTieAlone();
        reciprocalOfTheLargestNumbers();
        fractionsAreInLowestTerms();
        meanWithoutRuns();
        meanOfOneRun();
        meanLeavesEmptyRunsOut();
        meanTakesRunsWithoutHitsIn();
        meanOfAllQuestions();
        meanOfTheLargestDenominators();
        bestWithoutRuns();
        bestWithoutHits();
        bestMayBeTheLast();
        bestOfSeveralIsTheLowestNumber();
        bestDiffersByLittle();
        bestLooksToTheDepth();
        bestTakesTheMeanAndNotTheSum();
        measuresChangeNothing();
        theLastOfAllCallsAnswers();
        check.end();
    }

    private static JudgedRuns tied(int system, int question, int count, int relevant) {
        JudgedRuns bench = new JudgedRuns();
        addTied(bench, system, question, count, relevant);
        return bench;
    }

    /** So many tied documents, the last ones of them relevant. */
    private static void addTied(JudgedRuns bench, int system, int question, int count, int relevant) {
        for (int document = 0; document < count; document++) {
            bench.append(system, question, document, 6);
            if (document >= count - relevant) {
                bench.judge(question, document, JudgedRuns.RELEVANT);
            }
        }
    }

    /** Twenty documents with scores of their own, relevant where the text has an R. */
    private static JudgedRuns ordered(String text) {
        JudgedRuns bench = new JudgedRuns();
        for (int place = 0; place < text.length(); place++) {
            bench.append(0, 0, place, 1000 - place);
            if (text.charAt(place) == 'R') {
                bench.judge(0, place, JudgedRuns.RELEVANT);
            }
        }
        return bench;
    }

    private static void precision(JudgedRuns bench, int depth, long top, long bottom) {
        check.due("precision to " + depth, top, bottom,
                bench.precisionNumerator(0, 0, depth), bench.precisionDenominator(0, 0, depth));
    }

    private static void reciprocal(JudgedRuns bench, long top, long bottom) {
        check.due("reciprocal", top, bottom, bench.reciprocalNumerator(0, 0), bench.reciprocalDenominator(0, 0));
    }

    private static void mean(JudgedRuns bench, int system, int depth, long top, long bottom) {
        check.due("mean of " + system + " to " + depth, top, bottom,
                bench.meanNumerator(system, depth), bench.meanDenominator(system, depth));
    }

    private static void hitsOfAnEmptyRun() {
        check.sentence("Promise 9: of an empty run");
        JudgedRuns bench = tied(1, 0, 3, 3);
        check.due("hits to 1", 0, bench.hits(0, 0, 1));
        check.due("hits to 20", 0, bench.hits(0, 0, 20));
        bench.empty(1, 0);
        check.due("hits of what was emptied", 0, bench.hits(1, 0, 20));
    }

    private static void hitsOfTheFirstOnes() {
        check.sentence("the hits are how many of its first k documents are relevant");
        JudgedRuns bench = ordered(".RR.R");
        int[] due = {0, 1, 2, 2, 3};
        for (int depth = 1; depth <= 5; depth++) {
            check.due("hits to " + depth, due[depth - 1], bench.hits(0, 0, depth));
        }
    }

    private static void hitsOfAShorterRun() {
        check.sentence("its first k documents: of a shorter run, all");
        JudgedRuns bench = ordered("R.R");
        check.due("hits to 3", 2, bench.hits(0, 0, 3));
        check.due("hits to 4", 2, bench.hits(0, 0, 4));
        check.due("hits to 20", 2, bench.hits(0, 0, 20));
    }

    private static void hitsOfAFullRun() {
        check.sentence("its first k documents: of a full run, from the first to the last one");
        JudgedRuns bench = ordered("RRRRRRRRRRRRRRRRRRRR");
        for (int depth = 1; depth <= 20; depth++) {
            check.due("hits to " + depth, depth, bench.hits(0, 0, depth));
        }
        JudgedRuns last = ordered("...................R");
        check.due("hits to 19", 0, last.hits(0, 0, 19));
        check.due("hits to 20", 1, last.hits(0, 0, 20));
    }

    private static void hitsOfTheRunAsItStands() {
        check.sentence("Promise 9: Returns the hits of a run as it stands");
        JudgedRuns bench = tied(0, 0, 4, 1);
        check.due("hits to 3, the relevant one tied and last", 0, bench.hits(0, 0, 3));
        check.due("hits to 4", 1, bench.hits(0, 0, 4));
        precision(bench, 3, 1, 4);
    }

    private static void whatIsNotJudgedIsNotRelevant() {
        check.sentence("Those that are not judged count as not relevant");
        JudgedRuns bench = tied(0, 0, 2, 0);
        precision(bench, 2, 0, 1);
        reciprocal(bench, 0, 1);
        bench.judge(0, 0, JudgedRuns.NOT_RELEVANT);
        check.due("hits, not relevant", 0, bench.hits(0, 0, 2));
        precision(bench, 2, 0, 1);
        reciprocal(bench, 0, 1);
        bench.judge(0, 0, JudgedRuns.RELEVANT);
        precision(bench, 2, 1, 2);
        bench.judge(0, 0, JudgedRuns.UNJUDGED);
        check.due("hits, taken back", 0, bench.hits(0, 0, 2));
        precision(bench, 2, 0, 1);
        reciprocal(bench, 0, 1);
        bench.judge(1, 0, JudgedRuns.RELEVANT);
        precision(bench, 2, 0, 1);
    }

    private static void precisionOfAnEmptyRun() {
        check.sentence("Promises 10 and 11: of an empty run");
        JudgedRuns bench = tied(1, 0, 3, 3);
        for (int depth = 1; depth <= 20; depth++) {
            precision(bench, depth, 0, 1);
        }
    }

    private static void precisionOfOneOrder() {
        check.sentence("the precision is hits / k; the run itself is one of the orders, here the only one");
        JudgedRuns bench = ordered("R..RRR");
        long[][] due = {{1, 1}, {1, 2}, {1, 3}, {1, 2}, {3, 5}, {2, 3}};
        for (int depth = 1; depth <= 6; depth++) {
            precision(bench, depth, due[depth - 1][0], due[depth - 1][1]);
        }
    }

    private static void precisionOfAShorterRun() {
        check.sentence("the precision is hits / k: by k where the run is shorter");
        JudgedRuns bench = ordered("RR");
        precision(bench, 2, 1, 1);
        precision(bench, 3, 2, 3);
        precision(bench, 20, 1, 10);
        JudgedRuns twoTied = tied(0, 0, 2, 1);
        precision(twoTied, 2, 1, 2);
        precision(twoTied, 3, 1, 3);
        precision(twoTied, 20, 1, 20);
    }

    private static void precisionOfAFullRun() {
        check.sentence("the precision is hits / k: of a full run");
        JudgedRuns all = ordered("RRRRRRRRRRRRRRRRRRRR");
        for (int depth = 1; depth <= 20; depth++) {
            precision(all, depth, 1, 1);
        }
        JudgedRuns last = ordered("...................R");
        precision(last, 19, 0, 1);
        precision(last, 20, 1, 20);
    }

    private static void precisionOfATieThatTheDepthCuts() {
        check.sentence("the mean of it over all orders of the run: a tie that the depth cuts");
        JudgedRuns bench = new JudgedRuns();
        bench.append(0, 0, 9, 7);
        addTied(bench, 0, 0, 3, 1);
        bench.append(0, 0, 30, 5);
        bench.judge(0, 30, JudgedRuns.RELEVANT);
        precision(bench, 1, 0, 1);
        precision(bench, 2, 1, 6);
        precision(bench, 3, 2, 9);
        precision(bench, 4, 1, 4);
        precision(bench, 5, 2, 5);
    }

    private static void precisionOfATieThatTheDepthEndsWith() {
        check.sentence("documents with higher scores come first: those behind the depth's score do not count");
        JudgedRuns bench = tied(0, 0, 3, 0);
        bench.append(0, 0, 10, 5);
        bench.append(0, 0, 11, 5);
        bench.judge(0, 10, JudgedRuns.RELEVANT);
        precision(bench, 3, 0, 1);
        precision(bench, 4, 1, 8);
        precision(bench, 5, 1, 5);
    }

    private static void precisionOfAWholeTie() {
        check.sentence("each counting alike: twenty tied, at every depth");
        for (int relevant = 0; relevant <= 20; relevant += 5) {
            JudgedRuns bench = tied(0, 0, 20, relevant);
            for (int depth = 1; depth <= 20; depth++) {
                precision(bench, depth, relevant == 0 ? 0 : relevant == 20 ? 1 : relevant == 15 ? 3 : 1,
                        relevant == 0 || relevant == 20 ? 1 : relevant == 10 ? 2 : 4);
            }
        }
        precision(tied(0, 0, 19, 1), 1, 1, 19);
        precision(tied(0, 0, 17, 1), 16, 1, 17);
    }

    private static void sameScoresOfOtherRunsAreNoTie() {
        check.sentence("documents one behind the other with the same score are tied: of one run");
        JudgedRuns bench = new JudgedRuns();
        bench.append(0, 0, 1, 5);
        bench.append(1, 0, 2, 5);
        bench.append(0, 1, 3, 5);
        bench.append(0, 0, 4, 4);
        bench.judge(0, 4, JudgedRuns.RELEVANT);
        precision(bench, 1, 0, 1);
        reciprocal(bench, 1, 2);
        // What was emptied leaves no score behind.
        bench.empty(0, 0);
        bench.append(0, 0, 4, 5);
        precision(bench, 1, 1, 1);
        reciprocal(bench, 1, 1);
    }

    private static void reciprocalOfAnEmptyRun() {
        check.sentence("Promises 12 and 13: of an empty run");
        JudgedRuns bench = tied(1, 0, 3, 3);
        reciprocal(bench, 0, 1);
        bench.empty(1, 0);
        check.due("reciprocal of what was emptied", 0, 1,
                bench.reciprocalNumerator(1, 0), bench.reciprocalDenominator(1, 0));
    }

    private static void reciprocalWithoutRelevantOnes() {
        check.sentence("0 if no document of the order is relevant");
        reciprocal(tied(0, 0, 1, 0), 0, 1);
        reciprocal(tied(0, 0, 20, 0), 0, 1);
        JudgedRuns bench = ordered("....................");
        reciprocal(bench, 0, 1);
        bench.judge(0, 20, JudgedRuns.RELEVANT);
        bench.judge(1, 0, JudgedRuns.RELEVANT);
        bench.judge(0, 0, JudgedRuns.NOT_RELEVANT);
        reciprocal(bench, 0, 1);
    }

    private static void reciprocalOfOneOrder() {
        check.sentence("the first rank is the rank of the first relevant document, and the reciprocal is 1 / that rank");
        JudgedRuns bench = ordered("....................");
        for (int rank = 20; rank >= 1; rank--) {
            bench.judge(0, rank - 1, JudgedRuns.RELEVANT);
            reciprocal(bench, 1, rank);
        }
    }

    private static void reciprocalOfOneAmongTied() {
        check.sentence("the mean of it over all orders of the run: one relevant among tied ones");
        reciprocal(tied(0, 0, 1, 1), 1, 1);
        reciprocal(tied(0, 0, 2, 1), 3, 4);
        reciprocal(tied(0, 0, 3, 1), 11, 18);
        reciprocal(tied(0, 0, 4, 1), 25, 48);
        reciprocal(tied(0, 0, 20, 1), HARMONIC_TOP, HARMONIC_BOTTOM);
    }

    private static void reciprocalOfAllTied() {
        check.sentence("the mean of it over all orders of the run: all or all but one relevant among tied ones");
        for (int count = 1; count <= 20; count++) {
            reciprocal(tied(0, 0, count, count), 1, 1);
        }
        // (count - 1) / count of the orders begin with a relevant one, the others have it at 2.
        reciprocal(tied(0, 0, 3, 2), 5, 6);
        reciprocal(tied(0, 0, 20, 19), 39, 40);
    }

    private static void reciprocalOfTheLastRanks() {
        check.sentence("the rank of the first relevant document: a tie at the end of a full run");
        JudgedRuns bench = new JudgedRuns();
        for (int place = 0; place < 20; place++) {
            bench.append(0, 0, place, place < 18 ? 100 - place : 3);
        }
        bench.judge(0, 18, JudgedRuns.RELEVANT);
        // (1/19 + 1/20) / 2
        reciprocal(bench, 39, 760);
        bench.judge(0, 19, JudgedRuns.RELEVANT);
        reciprocal(bench, 1, 19);
    }

    private static void reciprocalOfTheFirstTieAlone() {
        check.sentence("the first relevant document: what is relevant behind its tie does not matter");
        JudgedRuns bench = new JudgedRuns();
        bench.append(0, 0, 30, 9);
        bench.append(0, 0, 31, 9);
        addTied(bench, 0, 0, 3, 1);
        bench.append(0, 0, 32, 5);
        // (1/3 + 1/4 + 1/5) / 3
        reciprocal(bench, 47, 180);
        bench.judge(0, 32, JudgedRuns.RELEVANT);
        reciprocal(bench, 47, 180);
        bench.judge(0, 31, JudgedRuns.RELEVANT);
        reciprocal(bench, 3, 4);
    }

    private static void reciprocalOfTheLargestNumbers() {
        check.sentence("exact fractions: the twenty tied ones with the most orders to tell apart");
        // Of the ways to choose 10 of 20, those whose first one stands at rank 1, 2, .. 11.
        long top = 0;
        long ways = 1;
        long whole = 1;
        long[] chosenBehind = new long[12];
        for (int behind = 9; behind <= 19; behind++) {
            chosenBehind[20 - behind] = ways;
            ways = ways * (behind + 1) / (behind - 8);
        }
        for (int rank = 1; rank <= 11; rank++) {
            whole = whole / greatestDivisor(whole, rank) * rank;
        }
        long all = 0;
        for (int rank = 1; rank <= 11; rank++) {
            top += chosenBehind[rank] * (whole / rank);
            all += chosenBehind[rank];
        }
        check.due("the ways to choose 10 of 20", 184756, all);
        long divisor = greatestDivisor(top, all * whole);
        reciprocal(tied(0, 0, 20, 10), top / divisor, all * whole / divisor);
    }

    private static long greatestDivisor(long one, long other) {
        return other == 0 ? one : greatestDivisor(other, one % other);
    }

    private static void fractionsAreInLowestTerms() {
        check.sentence("Fractions are told in lowest terms with a denominator above 0");
        for (int count = 0; count <= 20; count++) {
            for (int relevant = 0; relevant <= count; relevant++) {
                JudgedRuns bench = tied(0, 0, count, relevant);
                addTied(bench, 0, 1, Math.min(count / 2, 9), 0);
                lowest("reciprocal", bench.reciprocalNumerator(0, 0), bench.reciprocalDenominator(0, 0));
                for (int depth = 1; depth <= 20; depth++) {
                    lowest("precision", bench.precisionNumerator(0, 0, depth), bench.precisionDenominator(0, 0, depth));
                    lowest("mean", bench.meanNumerator(0, depth), bench.meanDenominator(0, depth));
                }
            }
        }
    }

    private static void lowest(String what, long top, long bottom) {
        boolean isLowest = bottom > 0 && top >= 0 && top <= bottom && greatestDivisor(top, bottom) == 1;
        check.holds(what + " answered " + top + "/" + bottom + ", not in lowest terms", isLowest);
    }

    private static void meanWithoutRuns() {
        check.sentence("Promises 14 and 15: 0 and 1 if it has no run that is not empty");
        JudgedRuns bench = tied(1, 0, 3, 3);
        for (int depth = 1; depth <= 20; depth++) {
            mean(bench, 0, depth, 0, 1);
        }
        bench.empty(1, 0);
        mean(bench, 1, 3, 0, 1);
        mean(bench, 3, 20, 0, 1);
    }

    private static void meanOfOneRun() {
        check.sentence("the mean over the questions for which it has a run that is not empty: a single one");
        for (int question = 0; question < 8; question++) {
            JudgedRuns bench = tied(3, question, 3, 2);
            mean(bench, 3, 1, 2, 3);
            mean(bench, 3, 3, 2, 3);
            mean(bench, 3, 20, 1, 10);
            mean(bench, 2, 1, 0, 1);
        }
    }

    private static void meanLeavesEmptyRunsOut() {
        check.sentence("over the questions for which it has a run that is not empty: empty ones do not count");
        JudgedRuns bench = tied(0, 2, 2, 1);
        addTied(bench, 0, 5, 1, 1);
        mean(bench, 0, 1, 3, 4);
        bench.empty(0, 2);
        mean(bench, 0, 1, 1, 1);
        bench.empty(0, 5);
        mean(bench, 0, 1, 0, 1);
    }

    private static void meanTakesRunsWithoutHitsIn() {
        check.sentence("over the questions for which it has a run that is not empty: those without hits count");
        JudgedRuns bench = tied(0, 0, 1, 1);
        for (int question = 1; question < 8; question++) {
            addTied(bench, 0, question, 1, 0);
            mean(bench, 0, 1, 1, question + 1);
        }
    }

    private static void meanOfAllQuestions() {
        check.sentence("the mean over the questions: all eight of them");
        JudgedRuns bench = new JudgedRuns();
        for (int question = 0; question < 8; question++) {
            addTied(bench, 2, question, 1, 1);
            mean(bench, 2, 1, 1, 1);
            mean(bench, 2, 20, 1, 20);
        }
        bench.judge(7, 0, JudgedRuns.NOT_RELEVANT);
        mean(bench, 2, 1, 7, 8);
    }

    private static void meanOfTheLargestDenominators() {
        check.sentence("exact fractions: the mean of the largest denominators");
        JudgedRuns bench = new JudgedRuns();
        int[] counts = {20, 19, 18, 17, 16, 13, 11, 7};
        for (int question = 0; question < 8; question++) {
            addTied(bench, 1, question, counts[question], 1);
        }
        // Eight terms 1 / count over 8; the depth cuts all ties, so it does not matter up to 7.
        long whole = 232792560L;
        long top = 0;
        for (int count : counts) {
            top += whole / count;
        }
        long divisor = greatestDivisor(top, whole * 8);
        mean(bench, 1, 1, top / divisor, whole * 8 / divisor);
        mean(bench, 1, 7, top / divisor, whole * 8 / divisor);
        mean(bench, 1, 20, 1, 20);
    }

    private static void bestWithoutRuns() {
        check.sentence("Promise 16: which is 0 without runs that are not empty");
        JudgedRuns bench = new JudgedRuns();
        check.due("best without runs", 0, bench.best(1));
        bench.append(3, 0, 1, 1);
        check.due("best, 0 of system 3 too", 0, bench.best(1));
        bench.judge(0, 1, JudgedRuns.RELEVANT);
        check.due("best, more than 0 of system 3", 3, bench.best(1));
        bench.empty(3, 0);
        check.due("best of what was emptied", 0, bench.best(1));
    }

    private static void bestWithoutHits() {
        check.sentence("the greatest precision: 0 of all, by runs without hits or by none");
        JudgedRuns bench = tied(0, 0, 3, 0);
        addTied(bench, 2, 1, 3, 0);
        check.due("best to 1", 0, bench.best(1));
        check.due("best to 20", 0, bench.best(20));
    }

    private static void bestMayBeTheLast() {
        check.sentence("Promise 16: Returns the system with the greatest precision, each of them");
        for (int greatest = 0; greatest < 4; greatest++) {
            JudgedRuns bench = new JudgedRuns();
            bench.judge(0, 0, JudgedRuns.RELEVANT);
            for (int system = 0; system < 4; system++) {
                bench.append(system, 0, 0, 5);
                bench.append(system, 0, 1, system == greatest ? 4 : 5);
            }
            check.due("best to 1", greatest, bench.best(1));
            check.due("best to 2", 0, bench.best(2));
        }
    }

    private static void bestOfSeveralIsTheLowestNumber() {
        check.sentence("Promise 16: of several the one with the lowest number");
        for (int lowest = 0; lowest < 4; lowest++) {
            JudgedRuns bench = new JudgedRuns();
            bench.judge(0, 0, JudgedRuns.RELEVANT);
            for (int system = 3; system >= lowest; system--) {
                bench.append(system, 0, 0, 5);
                check.due("best to 1", system, bench.best(1));
            }
        }
        // 2/4 of two runs is 1/2 of one.
        JudgedRuns bench = tied(1, 0, 1, 1);
        addTied(bench, 1, 1, 1, 0);
        addTied(bench, 2, 2, 2, 1);
        check.due("best of the same by other fractions", 1, bench.best(1));
    }

    private static void bestDiffersByLittle() {
        check.sentence("the greatest precision: by the fractions themselves");
        JudgedRuns bench = tied(0, 0, 20, 1);
        addTied(bench, 3, 1, 19, 1);
        check.due("best of 1/20 and 1/19", 3, bench.best(1));
        // (1/19 + 1/19) / 2 and 2/38: the same; with 1/18 for one of them it is more.
        addTied(bench, 1, 2, 19, 1);
        check.due("best of 1/20, 1/19 and 1/19", 1, bench.best(1));
        addTied(bench, 2, 3, 18, 1);
        addTied(bench, 2, 4, 19, 1);
        check.due("best with (1/18 + 1/19) / 2", 2, bench.best(1));
    }

    private static void bestLooksToTheDepth() {
        check.sentence("Promise 16: at the depth that is told");
        JudgedRuns bench = tied(1, 0, 1, 1);
        addTied(bench, 3, 1, 20, 20);
        bench.append(1, 0, 30, 1);
        check.due("best to 1", 1, bench.best(1));
        check.due("best to 2", 3, bench.best(2));
        check.due("best to 20", 3, bench.best(20));
    }

    private static void bestTakesTheMeanAndNotTheSum() {
        check.sentence("the greatest precision: over the questions for which it has a run that is not empty");
        JudgedRuns bench = tied(3, 0, 1, 1);
        addTied(bench, 1, 1, 1, 1);
        addTied(bench, 1, 2, 1, 1);
        addTied(bench, 1, 3, 1, 0);
        check.due("best of 2/3 by three runs and 1 by one", 3, bench.best(1));
        bench.empty(1, 3);
        check.due("best of 1 by two runs and 1 by one", 1, bench.best(1));
    }

    private static void measuresChangeNothing() {
        check.sentence("Promises 9 to 16 tell and change nothing");
        JudgedRuns bench = tied(0, 0, 5, 2);
        for (int time = 0; time < 3; time++) {
            check.due("hits", 1, bench.hits(0, 0, 4));
            precision(bench, 4, 2, 5);
            reciprocal(bench, 77, 120);
            mean(bench, 0, 4, 2, 5);
            check.due("best", 0, bench.best(4));
            check.due("at", 3, bench.at(0, 0, 4));
        }
    }

    private static void theLastOfAllCallsAnswers() {
        check.sentence("An object is used for at most 512 calls: the last of them is answered as the first");
        JudgedRuns bench = tied(0, 0, 20, 1);
        for (int call = 22; call <= 512; call++) {
            if (call % 2 == 0) {
                check.due("call " + call, HARMONIC_BOTTOM, bench.reciprocalDenominator(0, 0));
            } else {
                check.due("call " + call, 20, bench.meanDenominator(0, call % 20 + 1));
            }
        }
    }
}
