import java.math.BigInteger;
import java.util.ArrayList;
import java.util.List;
import java.util.TreeSet;

/**
 * The document told a second time and in another way: lists, sets and big fractions, and means
 * taken over the orders themselves where they are few. It is compared with JudgedRuns call by call.
 */
final class Model {
    private static final long FEW_ORDERS = 2000;

    private static final class Entry {
        final int document;
        final int score;

        Entry(int document, int score) {
            this.document = document;
            this.score = score;
        }
    }

    /** Which way the means were taken, so that a test can tell that both ways were. */
    long enumerated = 0;
    long calculated = 0;

    private final List<List<List<Entry>>> runs = new ArrayList<>();
    private final int[][] judgements = new int[8][40];
    private final List<int[]> list = new ArrayList<>();
    private final List<Boolean> clicked = new ArrayList<>();

    Model() {
        for (int system = 0; system < 4; system++) {
            List<List<Entry>> ofSystem = new ArrayList<>();
            for (int question = 0; question < 8; question++) {
                ofSystem.add(new ArrayList<>());
            }
            runs.add(ofSystem);
        }
    }

    private static void range(int low, int high, int number) {
        if (number < low || number > high) {
            throw new IllegalArgumentException();
        }
    }

    private List<Entry> run(int system, int question) {
        range(0, 3, system);
        range(0, 7, question);
        return runs.get(system).get(question);
    }

    int append(int system, int question, int document, int score) {
        List<Entry> run = run(system, question);
        range(0, 39, document);
        range(0, 1000, score);
        boolean listed = run.stream().anyMatch(entry -> entry.document == document);
        boolean lower = run.stream().anyMatch(entry -> entry.score < score);
        if (run.size() == 20 || listed || lower) {
            throw new IllegalStateException();
        }
        run.add(new Entry(document, score));
        return run.size();
    }

    int empty(int system, int question) {
        int size = run(system, question).size();
        run(system, question).clear();
        return size;
    }

    int length(int system, int question) {
        return run(system, question).size();
    }

    int at(int system, int question, int rank) {
        range(1, 20, rank);
        List<Entry> run = run(system, question);
        return run.size() < rank ? -1 : run.get(rank - 1).document;
    }

    int judge(int question, int document, int judgement) {
        range(0, 7, question);
        range(0, 39, document);
        range(0, 2, judgement);
        int before = judgements[question][document];
        judgements[question][document] = judgement;
        return before;
    }

    private TreeSet<Integer> pooled(int question, int depth) {
        range(1, 20, depth);
        TreeSet<Integer> documents = new TreeSet<>();
        for (int system = 0; system < 4; system++) {
            run(system, question).stream().limit(depth).forEach(entry -> documents.add(entry.document));
        }
        return documents;
    }

    int pool(int question, int depth) {
        return pooled(question, depth).size();
    }

    int toJudge(int question, int depth) {
        TreeSet<Integer> documents = pooled(question, depth);
        documents.removeIf(document -> judgements[question][document] != 0);
        return documents.isEmpty() ? -1 : documents.first();
    }

    private int hitsOf(List<Integer> order, int question, int depth) {
        return (int) order.stream().limit(depth)
                .filter(document -> judgements[question][document] == 2).count();
    }

    private int firstRank(List<Integer> order, int question) {
        for (int place = 0; place < order.size(); place++) {
            if (judgements[question][order.get(place)] == 2) {
                return place + 1;
            }
        }
        return 0;
    }

    int hits(int system, int question, int depth) {
        range(1, 20, depth);
        List<Integer> order = new ArrayList<>();
        run(system, question).forEach(entry -> order.add(entry.document));
        return hitsOf(order, question, depth);
    }

    private static long numberOfOrders(List<Entry> run) {
        double orders = 1;
        int tied = 0;
        for (int place = 0; place < run.size(); place++) {
            tied = place > 0 && run.get(place).score == run.get(place - 1).score ? tied + 1 : 1;
            orders *= tied;
        }
        return orders > FEW_ORDERS ? FEW_ORDERS + 1 : (long) orders;
    }

    private static void collectOrders(List<Entry> left, List<Integer> begun, List<List<Integer>> orders) {
        if (left.isEmpty()) {
            orders.add(new ArrayList<>(begun));
            return;
        }
        for (Entry next : left) {
            if (next.score == left.get(0).score) {
                List<Entry> rest = new ArrayList<>(left);
                rest.remove(next);
                begun.add(next.document);
                collectOrders(rest, begun, orders);
                begun.remove(begun.size() - 1);
            }
        }
    }

    private static Fraction meanOf(List<Fraction> fractions) {
        Fraction total = Fraction.of(0, 1);
        for (Fraction fraction : fractions) {
            total = total.plus(fraction);
        }
        return fractions.isEmpty() ? total : total.times(Fraction.of(1, fractions.size()));
    }

    Fraction precision(int system, int question, int depth) {
        range(1, 20, depth);
        List<Entry> run = run(system, question);
        if (numberOfOrders(run) > FEW_ORDERS) {
            calculated++;
            return calculatedPrecision(run, question, depth);
        }
        enumerated++;
        List<List<Integer>> orders = new ArrayList<>();
        collectOrders(run, new ArrayList<>(), orders);
        List<Fraction> fractions = new ArrayList<>();
        orders.forEach(order -> fractions.add(Fraction.of(hitsOf(order, question, depth), depth)));
        return meanOf(fractions);
    }

    Fraction reciprocal(int system, int question) {
        List<Entry> run = run(system, question);
        if (numberOfOrders(run) > FEW_ORDERS) {
            calculated++;
            return calculatedReciprocal(run, question);
        }
        enumerated++;
        List<List<Integer>> orders = new ArrayList<>();
        collectOrders(run, new ArrayList<>(), orders);
        List<Fraction> fractions = new ArrayList<>();
        for (List<Integer> order : orders) {
            int rank = firstRank(order, question);
            fractions.add(rank == 0 ? Fraction.of(0, 1) : Fraction.of(1, rank));
        }
        return meanOf(fractions);
    }

    /** How many of the tied documents of one score there are, and how many of them are relevant. */
    private List<int[]> groups(List<Entry> run, int question) {
        List<int[]> groups = new ArrayList<>();
        int score = -1;
        for (Entry entry : run) {
            if (entry.score != score) {
                groups.add(new int[2]);
                score = entry.score;
            }
            int[] last = groups.get(groups.size() - 1);
            last[0]++;
            last[1] += judgements[question][entry.document] == 2 ? 1 : 0;
        }
        return groups;
    }

    /** Each number of hits among the ones drawn from a group, times its hypergeometric chance. */
    private Fraction calculatedPrecision(List<Entry> run, int question, int depth) {
        Fraction hits = Fraction.of(0, 1);
        int left = depth;
        for (int[] group : groups(run, question)) {
            int drawn = Math.min(left, group[0]);
            left -= drawn;
            for (int hit = 0; hit <= drawn; hit++) {
                BigInteger ways = choose(group[1], hit).multiply(choose(group[0] - group[1], drawn - hit));
                hits = hits.plus(new Fraction(ways.multiply(BigInteger.valueOf(hit)), choose(group[0], drawn)));
            }
        }
        return hits.times(Fraction.of(1, depth));
    }

    /** Rank by rank: the chance that none before was relevant, times the chance that this one is. */
    private Fraction calculatedReciprocal(List<Entry> run, int question) {
        Fraction total = Fraction.of(0, 1);
        Fraction noneYet = Fraction.of(1, 1);
        int rank = 0;
        for (int[] group : groups(run, question)) {
            for (int left = group[0]; left > 0; left--) {
                rank++;
                int relevant = Math.min(group[1], left);
                total = total.plus(noneYet.times(Fraction.of(relevant, left)).times(Fraction.of(1, rank)));
                noneYet = noneYet.times(Fraction.of(left - relevant, left));
            }
        }
        return total;
    }

    private static BigInteger choose(int size, int members) {
        if (members < 0 || members > size) {
            return BigInteger.ZERO;
        }
        return members == 0 ? BigInteger.ONE : choose(size - 1, members - 1).add(choose(size - 1, members));
    }

    Fraction mean(int system, int depth) {
        range(0, 3, system);
        range(1, 20, depth);
        List<Fraction> fractions = new ArrayList<>();
        for (int question = 0; question < 8; question++) {
            if (length(system, question) > 0) {
                fractions.add(precision(system, question, depth));
            }
        }
        return meanOf(fractions);
    }

    int best(int depth) {
        int best = 0;
        for (int system = 1; system < 4; system++) {
            if (mean(system, depth).isGreaterThan(mean(best, depth))) {
                best = system;
            }
        }
        return best;
    }

    int cross(int first, int second, int question, int length) {
        List<List<Entry>> waiting = new ArrayList<>();
        waiting.add(new ArrayList<>(run(first, question)));
        waiting.add(new ArrayList<>(run(second, question)));
        range(1, 20, length);
        if (first == second) {
            throw new IllegalArgumentException();
        }
        list.clear();
        clicked.clear();
        for (int turn = 0; list.size() < length && !(waiting.get(0).isEmpty() && waiting.get(1).isEmpty()); turn++) {
            List<Entry> own = waiting.get(turn % 2);
            if (!own.isEmpty()) {
                int document = own.get(0).document;
                list.add(new int[] {document, turn % 2 == 0 ? first : second});
                clicked.add(false);
                waiting.forEach(entries -> entries.removeIf(entry -> entry.document == document));
            }
        }
        return list.size();
    }

    int crossed(int rank) {
        range(1, list.size(), rank);
        return list.get(rank - 1)[0];
    }

    int click(int rank) {
        range(1, list.size(), rank);
        if (clicked.get(rank - 1)) {
            throw new IllegalStateException();
        }
        clicked.set(rank - 1, true);
        return list.get(rank - 1)[1];
    }

    int credit(int system) {
        range(0, 3, system);
        int credit = 0;
        for (int place = 0; place < list.size(); place++) {
            credit += clicked.get(place) && list.get(place)[1] == system ? 1 : 0;
        }
        return credit;
    }

    private int difference(int first, int second, int question, int depth) {
        return hits(first, question, depth) - hits(second, question, depth);
    }

    int sum(int first, int second, int depth) {
        int sum = 0;
        for (int question = 0; question < 8; question++) {
            sum += difference(first, second, question, depth);
        }
        return sum;
    }

    int test(int first, int second, int depth) {
        int asItIs = Math.abs(sum(first, second, depth));
        return exchangesFrom(0, 0, asItIs, first, second, depth);
    }

    private int exchangesFrom(int question, int begun, int least, int first, int second, int depth) {
        if (question == 8) {
            return Math.abs(begun) >= least ? 1 : 0;
        }
        int difference = difference(first, second, question, depth);
        return exchangesFrom(question + 1, begun + difference, least, first, second, depth)
                + exchangesFrom(question + 1, begun - difference, least, first, second, depth);
    }
}
