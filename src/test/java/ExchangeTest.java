/** Promises 21 and 22: sum, test. */
public final class ExchangeTest {
    private static final Check check = new Check();

    public static void main(String[] args) {
        sumsOfRunsAsTheyStand();
        sumLooksToTheDepth();
        oneQuestionThatDiffers();
        severalQuestionsThatDiffer();
        everyQuestionDiffers();
        aSystemWithItself();
        wrongArguments();
        check.end();
    }

    /** System 0 gets as many hits for each question as are told, system 1 those below 0. */
    private static JudgedRuns withDifferences(int... differences) {
        JudgedRuns bench = new JudgedRuns();
        for (int question = 0; question < differences.length; question++) {
            int system = differences[question] > 0 ? 0 : 1;
            for (int document = 0; document < Math.abs(differences[question]); document++) {
                bench.append(system, question, document, 5);
                bench.judge(question, document, JudgedRuns.RELEVANT);
            }
        }
        return bench;
    }

    private static void sumsOfRunsAsTheyStand() {
        JudgedRuns bench = new JudgedRuns();
        bench.append(0, 0, 5, 10);
        bench.append(0, 0, 6, 10);
        bench.append(0, 0, 7, 10);
        bench.append(3, 0, 7, 10);
        bench.judge(0, 7, JudgedRuns.RELEVANT);
        check.due("sum to 2", -1, bench.sum(0, 3, 2));
        check.due("sum to 2 the other way", 1, bench.sum(3, 0, 2));
        check.due("sum to 3", 0, bench.sum(0, 3, 3));
        check.due("sum to 20", 0, bench.sum(0, 3, 20));
        check.due("sum with an empty run", 1, bench.sum(0, 1, 20));
        check.due("sum of empty runs", 0, bench.sum(1, 2, 20));
        check.due("test to 3", 256, bench.test(0, 3, 3));
        check.due("test to 2", 256, bench.test(0, 3, 2));
    }

    private static void sumLooksToTheDepth() {
        JudgedRuns bench = withDifferences(3, -5, 20, 0, 0, 0, 0, -1);
        check.due("sum to 1", 0, bench.sum(0, 1, 1));
        check.due("sum to 2", 1, bench.sum(0, 1, 2));
        check.due("sum to 3", 2, bench.sum(0, 1, 3));
        check.due("sum to 5", 2, bench.sum(0, 1, 5));
        check.due("sum to 19", 16, bench.sum(0, 1, 19));
        check.due("sum to 20", 17, bench.sum(0, 1, 20));
        check.due("sum of the others", 0, bench.sum(2, 3, 20));
    }

    private static void oneQuestionThatDiffers() {
        for (int question = 0; question < 8; question++) {
            int[] differences = new int[8];
            differences[question] = question % 2 == 0 ? 4 : -4;
            JudgedRuns bench = withDifferences(differences);
            check.due("sum", differences[question], bench.sum(0, 1, 20));
            check.due("test", 256, bench.test(0, 1, 20));
        }
    }

    private static void severalQuestionsThatDiffer() {
        JudgedRuns two = withDifferences(1, 1);
        // Only with both or neither exchanged the sum stays at 2 or -2.
        check.due("test of 1 and 1", 128, two.test(0, 1, 20));
        JudgedRuns opposed = withDifferences(1, -1);
        check.due("test of 1 and -1", 256, opposed.test(0, 1, 20));
        JudgedRuns three = withDifferences(1, 0, 1, 0, 1);
        // 2 of 8.
        check.due("test of 1, 1 and 1", 64, three.test(0, 1, 20));
        check.due("test the other way", 64, three.test(1, 0, 20));
        JudgedRuns mixed = withDifferences(0, 3, 0, -2, 0, 0, 0, 1);
        // Of the signs of 3, -2, 1 with a sum of 2: all but those with the sum 0.
        check.due("sum of 3, -2 and 1", 2, mixed.sum(0, 1, 20));
        check.due("test of 3, -2 and 1", 192, mixed.test(0, 1, 20));
    }

    private static void everyQuestionDiffers() {
        JudgedRuns alike = withDifferences(1, 1, 1, 1, 1, 1, 1, 1);
        check.due("sum of eight", 8, alike.sum(0, 1, 1));
        check.due("test of eight", 2, alike.test(0, 1, 1));
        check.due("test of eight the other way", 2, alike.test(1, 0, 1));
        JudgedRuns oneOff = withDifferences(1, 1, 1, 1, -1, 1, 1, 1);
        // Those with none, one, seven or eight of the signs away from all alike.
        check.due("test of seven and one", 18, oneOff.test(0, 1, 20));
        JudgedRuns rising = withDifferences(1, 2, 3, 4, 5, 6, 7, 8);
        check.due("test of 1 to 8", 2, rising.test(0, 1, 20));
        check.due("sum of 1 to 8", 36, rising.sum(0, 1, 20));
        check.due("test of 1 to 8 to 2", 2, rising.test(0, 1, 2));
    }

    private static void aSystemWithItself() {
        JudgedRuns bench = withDifferences(1, 2, 3);
        for (int system = 0; system < 4; system++) {
            check.due("sum with itself", 0, bench.sum(system, system, 20));
            check.due("test with itself", 256, bench.test(system, system, 20));
        }
    }

    private static void wrongArguments() {
        JudgedRuns bench = new JudgedRuns();
        for (int wrong : Check.outside(0, 3)) {
            check.refusesArgument("sum, first " + wrong, () -> bench.sum(wrong, 0, 1));
            check.refusesArgument("sum, second " + wrong, () -> bench.sum(0, wrong, 1));
            check.refusesArgument("test, first " + wrong, () -> bench.test(wrong, 0, 1));
            check.refusesArgument("test, second " + wrong, () -> bench.test(0, wrong, 1));
        }
        for (int wrong : Check.outside(1, 20)) {
            check.refusesArgument("sum, depth " + wrong, () -> bench.sum(0, 1, wrong));
            check.refusesArgument("test, depth " + wrong, () -> bench.test(0, 1, wrong));
        }
    }
}
