/**
 * A bench for search engines: runs of systems for questions, pools that are judged, measures by
 * rank in exact fractions, ties averaged over all orders, crossed lists with clicks, and tests by
 * exchanging systems within questions.
 */
public final class JudgedRuns {
    public static final int NONE = -1;
    public static final int UNJUDGED = 0, NOT_RELEVANT = 1, RELEVANT = 2;

    private static final int SYSTEMS = 4;
    private static final int QUESTIONS = 8;
    private static final int DOCUMENTS = 40;
    private static final int LONGEST = 20;
    private static final int HIGHEST_SCORE = 1000;
    private static final int EXCHANGES = 256;

    /**
     * The least common multiple of 1 to 20. Every rank and every number of tied documents divides
     * it, so sums of fractions with such denominators are kept as whole numbers of these parts.
     */
    private static final long PARTS = 232792560L;

    /** Two longs need fewer than 100 steps of division to their greatest common divisor. */
    private static final int DIVISION_STEPS = 200;

    private final Question[] questions;
    private final CrossedList list;
    private final int[] differences;

    public JudgedRuns() {
        questions = new Question[QUESTIONS];
        for (int question = 0; question < QUESTIONS; question++) {
            questions[question] = new Question();
        }
        list = new CrossedList();
        differences = new int[QUESTIONS];
    }

    // ---- runs

    public int append(int system, int question, int document, int score)
            throws IllegalArgumentException, IllegalStateException {
        requireSystem(system);
        requireQuestion(question);
        requireDocument(document);
        if (score < 0 || score > HIGHEST_SCORE) {
            throw new IllegalArgumentException("score is not 0 to 1000");
        }
        Run run = questions[question].runs[system];
        if (run.count >= LONGEST) {
            throw new IllegalStateException("the run has 20 documents");
        }
        if (run.rankOf(document) != NONE) {
            throw new IllegalStateException("the run has this document");
        }
        if (run.endsBelow(score)) {
            throw new IllegalStateException("the last document of the run has a lower score");
        }
        return run.add(document, score);
    }

    public int empty(int system, int question) throws IllegalArgumentException {
        requireSystem(system);
        requireQuestion(question);
        Run run = questions[question].runs[system];
        int before = run.count;
        run.count = 0;
        return before;
    }

    public int length(int system, int question) throws IllegalArgumentException {
        requireSystem(system);
        requireQuestion(question);
        return questions[question].runs[system].count;
    }

    public int at(int system, int question, int rank) throws IllegalArgumentException {
        requireSystem(system);
        requireQuestion(question);
        requireOneToTwenty(rank);
        return questions[question].runs[system].documentAt(rank);
    }

    // ---- judgements

    public int judge(int question, int document, int judgement) throws IllegalArgumentException {
        requireQuestion(question);
        requireDocument(document);
        if (judgement != UNJUDGED && judgement != NOT_RELEVANT && judgement != RELEVANT) {
            throw new IllegalArgumentException("judgement is none of the three constants");
        }
        int[] judgements = questions[question].judgements;
        int before = judgements[document];
        judgements[document] = judgement;
        return before;
    }

    public int pool(int question, int depth) throws IllegalArgumentException {
        requireQuestion(question);
        requireOneToTwenty(depth);
        return questions[question].poolSize(depth);
    }

    public int toJudge(int question, int depth) throws IllegalArgumentException {
        requireQuestion(question);
        requireOneToTwenty(depth);
        return questions[question].firstUnjudged(depth);
    }

    // ---- measures of runs

    public int hits(int system, int question, int depth) throws IllegalArgumentException {
        requireSystem(system);
        requireQuestion(question);
        requireOneToTwenty(depth);
        return hitsAsItStands(system, question, depth);
    }

    public long precisionNumerator(int system, int question, int depth)
            throws IllegalArgumentException {
        requireSystem(system);
        requireQuestion(question);
        requireOneToTwenty(depth);
        return reduced(questions[question].meanHitParts(system, depth), PARTS * depth);
    }

    public long precisionDenominator(int system, int question, int depth)
            throws IllegalArgumentException {
        requireSystem(system);
        requireQuestion(question);
        requireOneToTwenty(depth);
        return reduced(PARTS * depth, questions[question].meanHitParts(system, depth));
    }

    public long reciprocalNumerator(int system, int question) throws IllegalArgumentException {
        requireSystem(system);
        requireQuestion(question);
        Question asked = questions[question];
        return reduced(asked.reciprocalParts(system), asked.reciprocalWhole(system));
    }

    public long reciprocalDenominator(int system, int question) throws IllegalArgumentException {
        requireSystem(system);
        requireQuestion(question);
        Question asked = questions[question];
        return reduced(asked.reciprocalWhole(system), asked.reciprocalParts(system));
    }

    // ---- measures of systems

    public long meanNumerator(int system, int depth) throws IllegalArgumentException {
        requireSystem(system);
        requireOneToTwenty(depth);
        return reduced(systemHitParts(system, depth), systemWhole(system, depth));
    }

    public long meanDenominator(int system, int depth) throws IllegalArgumentException {
        requireSystem(system);
        requireOneToTwenty(depth);
        return reduced(systemWhole(system, depth), systemHitParts(system, depth));
    }

    public int best(int depth) throws IllegalArgumentException {
        requireOneToTwenty(depth);
        int bestSystem = 0;
        long bestParts = 0;
        long bestRuns = 1;
        for (int system = 0; system < SYSTEMS; system++) {
            long parts = systemHitParts(system, depth);
            long runs = filledRuns(system);
            // The depth is the same for all, so parts / runs orders the precisions; the products
            // stay below 2^40.
            if (parts * bestRuns > bestParts * runs) {
                bestSystem = system;
                bestParts = parts;
                bestRuns = runs;
            }
        }
        return bestSystem;
    }

    // ---- crossed lists and tests

    public int cross(int first, int second, int question, int length)
            throws IllegalArgumentException {
        requireSystem(first);
        requireSystem(second);
        requireQuestion(question);
        requireOneToTwenty(length);
        if (first == second) {
            throw new IllegalArgumentException("both systems are the same");
        }
        Run[] runs = questions[question].runs;
        list.restart(length);
        // A round adds a document unless both systems have none, so as many rounds as the length
        // are enough.
        for (int round = 0; round < length; round++) {
            list.takeFrom(runs[first], first);
            list.takeFrom(runs[second], second);
        }
        return list.count;
    }

    public int crossed(int rank) throws IllegalArgumentException {
        requireListed(rank);
        return list.documents[rank - 1];
    }

    public int click(int rank) throws IllegalArgumentException, IllegalStateException {
        requireListed(rank);
        if (list.clicked[rank - 1]) {
            throw new IllegalStateException("the document was clicked");
        }
        list.clicked[rank - 1] = true;
        return list.givers[rank - 1];
    }

    public int credit(int system) throws IllegalArgumentException {
        requireSystem(system);
        return list.clicksFor(system);
    }

    public int sum(int first, int second, int depth) throws IllegalArgumentException {
        requireSystem(first);
        requireSystem(second);
        requireOneToTwenty(depth);
        noteDifferences(first, second, depth);
        return sumWithExchange(0);
    }

    public int test(int first, int second, int depth) throws IllegalArgumentException {
        requireSystem(first);
        requireSystem(second);
        requireOneToTwenty(depth);
        noteDifferences(first, second, depth);
        int unsigned = Math.abs(sumWithExchange(0));
        int counted = 0;
        for (int exchange = 0; exchange < EXCHANGES; exchange++) {
            if (Math.abs(sumWithExchange(exchange)) >= unsigned) {
                counted++;
            }
        }
        return counted;
    }

    private static void requireSystem(int system) {
        if (system < 0 || system >= SYSTEMS) {
            throw new IllegalArgumentException("system is not 0 to 3");
        }
    }

    private static void requireQuestion(int question) {
        if (question < 0 || question >= QUESTIONS) {
            throw new IllegalArgumentException("question is not 0 to 7");
        }
    }

    private static void requireDocument(int document) {
        if (document < 0 || document >= DOCUMENTS) {
            throw new IllegalArgumentException("document is not 0 to 39");
        }
    }

    /** Ranks of runs, depths and lengths of lists have this range in common. */
    private static void requireOneToTwenty(int number) {
        if (number < 1 || number > LONGEST) {
            throw new IllegalArgumentException("rank, depth or length is not 1 to 20");
        }
    }

    private void requireListed(int rank) {
        if (rank < 1 || rank > list.count) {
            throw new IllegalArgumentException("rank is not 1 to the length of the list");
        }
    }

    private int hitsAsItStands(int system, int question, int depth) {
        Question asked = questions[question];
        return asked.relevantWithin(asked.runs[system], 1, depth);
    }

    private long systemHitParts(int system, int depth) {
        long parts = 0;
        for (int question = 0; question < QUESTIONS; question++) {
            // An empty run adds nothing here; filledRuns keeps it out of the mean.
            parts += questions[question].meanHitParts(system, depth);
        }
        return parts;
    }

    /** What systemHitParts is divided by; 1 where there is nothing to average. */
    private long systemWhole(int system, int depth) {
        int runs = filledRuns(system);
        return runs == 0 ? 1 : PARTS * depth * runs;
    }

    private int filledRuns(int system) {
        int filled = 0;
        for (int question = 0; question < QUESTIONS; question++) {
            if (questions[question].runs[system].count > 0) {
                filled++;
            }
        }
        return filled;
    }

    private void noteDifferences(int first, int second, int depth) {
        for (int question = 0; question < QUESTIONS; question++) {
            differences[question] = hitsAsItStands(first, question, depth)
                    - hitsAsItStands(second, question, depth);
        }
    }

    /** An exchange is a set of questions: the question's bit tells whether it is in the set. */
    private int sumWithExchange(int exchange) {
        int total = 0;
        for (int question = 0; question < QUESTIONS; question++) {
            boolean exchanged = (exchange >> question & 1) == 1;
            total += exchanged ? -differences[question] : differences[question];
        }
        return total;
    }

    /** One side of a fraction in lowest terms, told by both of its sides. */
    private static long reduced(long side, long otherSide) {
        long divisor = greatestDivisor(side, otherSide);
        return divisor == 0 ? side : side / divisor;
    }

    private static long greatestDivisor(long one, long other) {
        long larger = one;
        long smaller = other;
        for (int step = 0; step < DIVISION_STEPS && smaller != 0; step++) {
            long rest = larger % smaller;
            larger = smaller;
            smaller = rest;
        }
        return larger;
    }

    /** How many sets of some members a larger set has. */
    private static long subsets(int size, int members) {
        long sets = 1;
        for (int member = 1; member <= members; member++) {
            // What stands here is a number of sets after every step, so the division is exact.
            sets = sets * (size - members + member) / member;
        }
        return sets;
    }

    /** A run of one system for one question. */
    private static final class Run {
        private final int[] documents;
        private final int[] scores;
        private int count;

        private Run() {
            documents = new int[LONGEST];
            scores = new int[LONGEST];
        }

        private int add(int document, int score) {
            if (count < LONGEST) {
                documents[count] = document;
                scores[count] = score;
                count++;
            }
            return count;
        }

        private boolean endsBelow(int score) {
            return count > 0 && scores[count - 1] < score;
        }

        private int documentAt(int rank) {
            return rank >= 1 && rank <= count ? documents[rank - 1] : NONE;
        }

        private int rankOf(int document) {
            for (int rank = 1; rank <= count; rank++) {
                if (documents[rank - 1] == document) {
                    return rank;
                }
            }
            return NONE;
        }

        /** The lowest rank tied with this one. Scores never rise, so ties stand side by side. */
        private int firstTied(int rank) {
            int first = rank;
            while (first > 1 && first <= count && scores[first - 2] == scores[first - 1]) {
                first--;
            }
            return first;
        }

        private int lastTied(int rank) {
            int last = rank;
            while (last >= 1 && last < count && scores[last] == scores[last - 1]) {
                last++;
            }
            return last;
        }
    }

    /** The runs of all systems for one question, and what is relevant for it. */
    private static final class Question {
        private final Run[] runs;
        private final int[] judgements;

        private Question() {
            runs = new Run[SYSTEMS];
            for (int system = 0; system < SYSTEMS; system++) {
                runs[system] = new Run();
            }
            judgements = new int[DOCUMENTS];
        }

        private boolean isPooled(int document, int depth) {
            for (int system = 0; system < SYSTEMS; system++) {
                int rank = runs[system].rankOf(document);
                if (rank != NONE && rank <= depth) {
                    return true;
                }
            }
            return false;
        }

        private int poolSize(int depth) {
            int size = 0;
            for (int document = 0; document < DOCUMENTS; document++) {
                if (isPooled(document, depth)) {
                    size++;
                }
            }
            return size;
        }

        private int firstUnjudged(int depth) {
            for (int document = 0; document < DOCUMENTS; document++) {
                if (judgements[document] == UNJUDGED && isPooled(document, depth)) {
                    return document;
                }
            }
            return NONE;
        }

        private boolean isRelevantAt(Run run, int rank) {
            int document = run.documentAt(rank);
            return document >= 0 && document < DOCUMENTS && judgements[document] == RELEVANT;
        }

        private int relevantWithin(Run run, int firstRank, int lastRank) {
            int relevant = 0;
            for (int rank = firstRank; rank <= lastRank && rank <= run.count; rank++) {
                if (isRelevantAt(run, rank)) {
                    relevant++;
                }
            }
            return relevant;
        }

        /** The mean of the hits over all orders of a run, as a number of PARTS. */
        private long meanHitParts(int system, int depth) {
            Run run = runs[system];
            long parts = 0;
            for (int rank = 1; rank <= run.count; rank++) {
                if (isRelevantAt(run, rank)) {
                    parts += hitParts(run.firstTied(rank), run.lastTied(rank), depth);
                }
            }
            return parts;
        }

        /**
         * In how many of the PARTS of all orders a document is among the first ones: over all
         * orders it stands equally often at each of the ranks that it is tied with.
         */
        private static long hitParts(int firstTied, int lastTied, int depth) {
            int tied = lastTied - firstTied + 1;
            int lookedAt = Math.min(lastTied, depth) - firstTied + 1;
            return tied < 1 || lookedAt < 1 ? 0 : PARTS / tied * lookedAt;
        }

        private int firstRelevantRank(Run run) {
            for (int rank = 1; rank <= run.count; rank++) {
                if (isRelevantAt(run, rank)) {
                    return rank;
                }
            }
            return NONE;
        }

        /**
         * The sum of 1 / first rank over all choices of the relevant ranks among the tied ones
         * that the first relevant document belongs to, as a number of PARTS. Each choice stands
         * for equally many orders.
         */
        private long reciprocalParts(int system) {
            Run run = runs[system];
            int relevantRank = firstRelevantRank(run);
            if (relevantRank == NONE) {
                return 0;
            }
            int first = run.firstTied(relevantRank);
            int last = run.lastTied(relevantRank);
            int relevant = relevantWithin(run, first, last);
            long parts = 0;
            // With a first rank, the other relevant ones share the tied ranks behind it.
            for (int rank = Math.max(first, 1); rank <= last - relevant + 1; rank++) {
                parts += PARTS / rank * subsets(last - rank, relevant - 1);
            }
            return parts;
        }

        /** What reciprocalParts is divided by; 1 where no document is relevant. */
        private long reciprocalWhole(int system) {
            Run run = runs[system];
            int relevantRank = firstRelevantRank(run);
            if (relevantRank == NONE) {
                return 1;
            }
            int first = run.firstTied(relevantRank);
            int last = run.lastTied(relevantRank);
            return PARTS * subsets(last - first + 1, relevantWithin(run, first, last));
        }
    }

    /** A list crossed from two runs; it keeps its documents whatever becomes of the runs. */
    private static final class CrossedList {
        private final int[] documents;
        private final int[] givers;
        private final boolean[] clicked;
        private int limit;
        private int count;

        private CrossedList() {
            documents = new int[LONGEST];
            givers = new int[LONGEST];
            clicked = new boolean[LONGEST];
        }

        private void restart(int length) {
            limit = Math.min(length, LONGEST);
            count = 0;
        }

        private void takeFrom(Run run, int giver) {
            for (int rank = 1; rank <= run.count && count < limit; rank++) {
                int document = run.documentAt(rank);
                if (!holds(document)) {
                    documents[count] = document;
                    givers[count] = giver;
                    clicked[count] = false;
                    count++;
                    return;
                }
            }
        }

        private boolean holds(int document) {
            for (int place = 0; place < count; place++) {
                if (documents[place] == document) {
                    return true;
                }
            }
            return false;
        }

        private int clicksFor(int system) {
            int clicks = 0;
            for (int place = 0; place < count; place++) {
                if (clicked[place] && givers[place] == system) {
                    clicks++;
                }
            }
            return clicks;
        }
    }
}
