import java.util.ArrayList;
import java.util.List;

/**
 * Each range that the document names for an argument: both ends answer as is due, all between them
 * are taken, and what lies outside is refused and changes nothing.
 */
public final class ArgumentsTest {
    private interface Call {
        long on(JudgedRuns bench, int argument);
    }

    private static final Check check = new Check();

    public static void main(String[] args) {
        append();
        empty();
        length();
        at();
        judge();
        pool();
        toJudge();
        hits();
        precisionNumerator();
        precisionDenominator();
        reciprocalNumerator();
        reciprocalDenominator();
        meanNumerator();
        meanDenominator();
        best();
        cross();
        crossAnotherOne();
        crossed();
        click();
        credit();
        sum();
        test();
        severalWrongArguments();
        check.end();
    }

    /** Next to the range, far from it, and what a narrower number or a mask would take for a part of it. */
    private static List<Integer> outside(int low, int high) {
        int[] candidates = {
            low - 1, low - 2, high + 1, high + 2, high + low + 1, -high, -high - 1, low + 256, high + 256,
            low + 1024, high - 1024, low - 1024, low + 65536, high + 65536, high - 65536,
            Integer.MIN_VALUE, Integer.MIN_VALUE + low, Integer.MIN_VALUE + high, Integer.MAX_VALUE,
            Integer.MAX_VALUE - high,
        };
        List<Integer> outside = new ArrayList<>();
        for (int candidate : candidates) {
            if (candidate < low || candidate > high) {
                outside.add(candidate);
            }
        }
        return outside;
    }

    private static void range(String sentence, int low, int high, long dueAtLow, long dueAtHigh, Call call) {
        check.sentence(sentence);
        check.due("at " + low, dueAtLow, call.on(Scene.made(), low));
        check.due("at " + high, dueAtHigh, call.on(Scene.made(), high));
        for (int between = low; between <= high; between++) {
            check.holds(between + " is refused", isTaken(call, between));
        }
        for (int wrong : outside(low, high)) {
            Scene.refusesArgument(check, "at " + wrong, bench -> call.on(bench, wrong));
        }
    }

    private static boolean isTaken(Call call, int argument) {
        try {
            call.on(Scene.made(), argument);
            return true;
        } catch (IllegalArgumentException exception) {
            return false;
        }
    }

    private static void append() {
        range("append, system: 0 to 3", 0, 3, 1, 1, (bench, v) -> bench.append(v, 5, 39, 0));
        range("append, question: 0 to 7", 0, 7, 1, 1, (bench, v) -> bench.append(2, v, 39, 0));
        range("append, document: 0 to 39", 0, 39, 1, 1, (bench, v) -> bench.append(2, 5, v, 0));
        range("append, score: 0 to 1000", 0, 1000, 1, 1, (bench, v) -> bench.append(2, 5, 3, v));
        // The ends are kept as they are: the last run of all takes the last document at both scores.
        check.sentence("append: the ends of all ranges together");
        JudgedRuns bench = new JudgedRuns();
        check.due("append(3, 7, 39, 1000)", 1, bench.append(3, 7, 39, 1000));
        check.due("append(3, 7, 0, 0)", 2, bench.append(3, 7, 0, 0));
        check.due("append(0, 0, 0, 0)", 1, bench.append(0, 0, 0, 0));
        check.due("at(3, 7, 1)", 39, bench.at(3, 7, 1));
        check.due("at(3, 7, 2)", 0, bench.at(3, 7, 2));
        check.due("at(0, 0, 1)", 0, bench.at(0, 0, 1));
    }

    private static void empty() {
        range("empty, system: 0 to 3", 0, 3, 20, 2, (bench, v) -> bench.empty(v, 0));
        range("empty, question: 0 to 7", 0, 7, 20, 3, (bench, v) -> bench.empty(0, v));
    }

    private static void length() {
        range("length, system: 0 to 3", 0, 3, 20, 2, (bench, v) -> bench.length(v, 0));
        range("length, question: 0 to 7", 0, 7, 20, 3, (bench, v) -> bench.length(0, v));
    }

    private static void at() {
        range("at, system: 0 to 3", 0, 3, 0, 7, (bench, v) -> bench.at(v, 0, 1));
        range("at, question: 0 to 7", 0, 7, 0, 39, (bench, v) -> bench.at(0, v, 1));
        range("at, rank: 1 to 20", 1, 20, 0, 19, (bench, v) -> bench.at(0, 0, v));
        range("at, rank: 1 to 20, of an empty run", 1, 20, -1, -1, (bench, v) -> bench.at(2, 4, v));
    }

    private static void judge() {
        range("judge, question: 0 to 7", 0, 7, 2, 1, (bench, v) -> bench.judge(v, 0, 0));
        range("judge, document: 0 to 39", 0, 39, 2, 2, (bench, v) -> bench.judge(0, v, 0));
        range("judge, judgement: UNJUDGED, NOT_RELEVANT or RELEVANT", 0, 2, 1, 1,
                (bench, v) -> bench.judge(0, 7, v));
        range("judge: what it is told is kept", 0, 2, 0, 2, (bench, v) -> {
            bench.judge(0, 7, v);
            return bench.judge(0, 7, JudgedRuns.UNJUDGED);
        });
    }

    private static void pool() {
        range("pool, question: 0 to 7", 0, 7, 3, 2, (bench, v) -> bench.pool(v, 1));
        range("pool, depth: 1 to 20", 1, 20, 3, 22, (bench, v) -> bench.pool(0, v));
    }

    private static void toJudge() {
        range("toJudge, question: 0 to 7", 0, 7, 1, 38, (bench, v) -> bench.toJudge(v, 2));
        range("toJudge, depth: 1 to 20", 1, 20, -1, 1, (bench, v) -> bench.toJudge(0, v));
    }

    private static void hits() {
        range("hits, system: 0 to 3", 0, 3, 3, 1, (bench, v) -> bench.hits(v, 0, 20));
        range("hits, question: 0 to 7", 0, 7, 3, 1, (bench, v) -> bench.hits(0, v, 20));
        range("hits, depth: 1 to 20", 1, 20, 1, 3, (bench, v) -> bench.hits(0, 0, v));
    }

    private static void precisionNumerator() {
        range("precisionNumerator, system: 0 to 3", 0, 3, 2, 1, (bench, v) -> bench.precisionNumerator(v, 0, 2));
        range("precisionNumerator, question: 0 to 7", 0, 7, 2, 1, (bench, v) -> bench.precisionNumerator(0, v, 2));
        range("precisionNumerator, depth: 1 to 20", 1, 20, 2, 3, (bench, v) -> bench.precisionNumerator(0, 0, v));
    }

    private static void precisionDenominator() {
        range("precisionDenominator, system: 0 to 3", 0, 3, 5, 2, (bench, v) -> bench.precisionDenominator(v, 0, 2));
        range("precisionDenominator, question: 0 to 7", 0, 7, 5, 2,
                (bench, v) -> bench.precisionDenominator(0, v, 2));
        range("precisionDenominator, depth: 1 to 20", 1, 20, 5, 20, (bench, v) -> bench.precisionDenominator(0, 0, v));
    }

    private static void reciprocalNumerator() {
        // Two relevant among five tied: (4 + 3/2 + 2/3 + 1/4) / 10.
        range("reciprocalNumerator, system: 0 to 3", 0, 3, 77, 1, (bench, v) -> bench.reciprocalNumerator(v, 0));
        range("reciprocalNumerator, question: 0 to 7", 0, 7, 77, 1, (bench, v) -> bench.reciprocalNumerator(0, v));
    }

    private static void reciprocalDenominator() {
        range("reciprocalDenominator, system: 0 to 3", 0, 3, 120, 2,
                (bench, v) -> bench.reciprocalDenominator(v, 0));
        range("reciprocalDenominator, question: 0 to 7", 0, 7, 120, 1,
                (bench, v) -> bench.reciprocalDenominator(0, v));
    }

    private static void meanNumerator() {
        // System 0: (2/5 + 1) / 2, and (3/20 + 1/20) / 2; system 3: (0 + 1/2) / 2.
        range("meanNumerator, system: 0 to 3", 0, 3, 7, 1, (bench, v) -> bench.meanNumerator(v, 1));
        range("meanNumerator, depth: 1 to 20", 1, 20, 7, 1, (bench, v) -> bench.meanNumerator(0, v));
    }

    private static void meanDenominator() {
        range("meanDenominator, system: 0 to 3", 0, 3, 10, 4, (bench, v) -> bench.meanDenominator(v, 1));
        range("meanDenominator, depth: 1 to 20", 1, 20, 4, 20, (bench, v) -> bench.meanDenominator(3, v));
    }

    private static void best() {
        // 7/8 of system 1 against 7/10 of system 0; at 20 both have 1/10.
        range("best, depth: 1 to 20", 1, 20, 1, 0, JudgedRuns::best);
    }

    private static void cross() {
        range("cross, first: 0 to 3", 0, 3, 20, 2, (bench, v) -> bench.cross(v, v == 1 ? 2 : 1, v == 3 ? 7 : 0, 20));
        range("cross, second: 0 to 3", 0, 3, 20, 2, (bench, v) -> bench.cross(v == 2 ? 1 : 2, v, 0, 20));
        range("cross, question: 0 to 7", 0, 7, 5, 2, (bench, v) -> bench.cross(1, 3, v, 20));
        range("cross, length: 1 to 20", 1, 20, 1, 20, (bench, v) -> bench.cross(0, 1, 0, v));
        range("cross, length: 1 to 20, of empty runs", 1, 20, 0, 0, (bench, v) -> bench.cross(0, 1, 5, v));
    }

    private static void crossAnotherOne() {
        check.sentence("cross: throws IllegalArgumentException if both systems are the same");
        for (int system = 0; system < 4; system++) {
            int same = system;
            Scene.refusesArgument(check, "cross of " + same + " with itself", bench -> bench.cross(same, same, 0, 20));
            Scene.refusesArgument(check, "cross of " + same + " with itself, empty run",
                    bench -> bench.cross(same, same, 5, 1));
        }
        check.sentence("cross, second: another one");
        for (int first = 0; first < 4; first++) {
            for (int second = 0; second < 4; second++) {
                if (first != second) {
                    check.due("cross of " + first + " and " + second, 0, Scene.made().cross(first, second, 5, 20));
                }
            }
        }
    }

    private static void crossed() {
        range("crossed, rank: 1 to the length of the list", 1, 7, 0, 4, JudgedRuns::crossed);
    }

    private static void click() {
        // A clicked one is refused as well, but not as an argument.
        check.sentence("click, rank: 1 to the length of the list");
        check.due("click(1)", 0, Scene.made().click(1));
        check.due("click(4)", 1, Scene.made().click(4));
        check.due("click(7)", 0, Scene.made().click(7));
        for (int wrong : outside(1, 7)) {
            Scene.refusesArgument(check, "click(" + wrong + ")", bench -> bench.click(wrong));
        }
    }

    private static void credit() {
        range("credit, system: 0 to 3", 0, 3, 1, 0, JudgedRuns::credit);
    }

    private static void sum() {
        range("sum, first: 0 to 3", 0, 3, 4, 2, (bench, v) -> bench.sum(v, 2, 20));
        range("sum, second: 0 to 3", 0, 3, -4, -2, (bench, v) -> bench.sum(2, v, 20));
        range("sum, depth: 1 to 20", 1, 20, 1, 0, (bench, v) -> bench.sum(0, 1, v));
    }

    private static void test() {
        range("test, first: 0 to 3", 0, 3, 256, 192, (bench, v) -> bench.test(v, 1, 20));
        range("test, second: 0 to 3", 0, 3, 256, 192, (bench, v) -> bench.test(1, v, 20));
        range("test, depth: 1 to 20", 1, 20, 128, 256, (bench, v) -> bench.test(0, 3, v));
    }

    private static void severalWrongArguments() {
        check.sentence("several arguments out of range");
        Scene.refusesArgument(check, "append", bench -> bench.append(-1, 8, 40, 1001));
        Scene.refusesArgument(check, "empty", bench -> bench.empty(4, -1));
        Scene.refusesArgument(check, "length", bench -> bench.length(-1, 8));
        Scene.refusesArgument(check, "at", bench -> bench.at(4, 8, 0));
        Scene.refusesArgument(check, "judge", bench -> bench.judge(-1, 40, 3));
        Scene.refusesArgument(check, "pool", bench -> bench.pool(8, 21));
        Scene.refusesArgument(check, "toJudge", bench -> bench.toJudge(-1, 0));
        Scene.refusesArgument(check, "hits", bench -> bench.hits(4, 8, 21));
        Scene.refusesArgument(check, "precisionNumerator", bench -> bench.precisionNumerator(-1, -1, 0));
        Scene.refusesArgument(check, "precisionDenominator", bench -> bench.precisionDenominator(4, 8, 0));
        Scene.refusesArgument(check, "reciprocalNumerator", bench -> bench.reciprocalNumerator(4, -1));
        Scene.refusesArgument(check, "reciprocalDenominator", bench -> bench.reciprocalDenominator(-1, 8));
        Scene.refusesArgument(check, "meanNumerator", bench -> bench.meanNumerator(4, 0));
        Scene.refusesArgument(check, "meanDenominator", bench -> bench.meanDenominator(-1, 0));
        Scene.refusesArgument(check, "cross, the same", bench -> bench.cross(-1, -1, 8, 0));
        Scene.refusesArgument(check, "cross", bench -> bench.cross(4, 5, -1, 21));
        Scene.refusesArgument(check, "sum", bench -> bench.sum(4, 4, 0));
        Scene.refusesArgument(check, "test", bench -> bench.test(-1, 4, 21));
    }
}
