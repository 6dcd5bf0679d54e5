/** Promises 6 to 8: judge, pool, toJudge. */
public final class JudgementsTest {
    private static final Check check = new Check();

    public static void main(String[] args) {
        judgeTellsTheJudgementBefore();
        judgementsAreApart();
        poolHasTheFirstOnesOfEveryRun();
        poolCountsADocumentOnce();
        poolMayHaveEveryDocument();
        toJudgeTellsTheLowestUnjudged();
        toJudgeFollowsJudgementsTakenBack();
        toJudgeLooksToTheDepthAlone();
        wrongArguments();
        check.end();
    }

    private static void judgeTellsTheJudgementBefore() {
        JudgedRuns bench = new JudgedRuns();
        int[] told = {2, 1, 0, 1, 2, 0, 0, 2, 2, 1, 1, 0};
        int before = 0;
        for (int judgement : told) {
            check.due("judge", before, bench.judge(7, 39, judgement));
            before = judgement;
        }
    }

    private static void judgementsAreApart() {
        JudgedRuns bench = new JudgedRuns();
        bench.judge(3, 10, JudgedRuns.RELEVANT);
        bench.judge(4, 10, JudgedRuns.NOT_RELEVANT);
        bench.judge(3, 11, JudgedRuns.NOT_RELEVANT);
        check.due("judgement of 10 for 3", 2, bench.judge(3, 10, 0));
        check.due("judgement of 10 for 4", 1, bench.judge(4, 10, 0));
        check.due("judgement of 11 for 3", 1, bench.judge(3, 11, 0));
        check.due("judgement of 11 for 4", 0, bench.judge(4, 11, 0));
        check.due("judgement of 9 for 3", 0, bench.judge(3, 9, 0));
    }

    private static void poolHasTheFirstOnesOfEveryRun() {
        JudgedRuns bench = new JudgedRuns();
        bench.append(0, 6, 5, 10);
        bench.append(0, 6, 6, 10);
        bench.append(3, 6, 7, 1);
        bench.append(3, 6, 8, 0);
        bench.append(3, 6, 9, 0);
        bench.append(1, 5, 30, 0);
        check.due("pool to 1", 2, bench.pool(6, 1));
        check.due("pool to 2", 4, bench.pool(6, 2));
        check.due("pool to 3", 5, bench.pool(6, 3));
        check.due("pool to 20", 5, bench.pool(6, 20));
        check.due("pool of another question", 1, bench.pool(5, 20));
        check.due("pool without runs", 0, bench.pool(0, 20));
        bench.empty(3, 6);
        check.due("pool after empty", 2, bench.pool(6, 20));
    }

    private static void poolCountsADocumentOnce() {
        JudgedRuns bench = new JudgedRuns();
        for (int system = 0; system < 4; system++) {
            bench.append(system, 0, 20 + system, 3);
            bench.append(system, 0, 1, 3);
        }
        check.due("pool to 1", 4, bench.pool(0, 1));
        check.due("pool to 2", 5, bench.pool(0, 2));
        bench.judge(0, 1, JudgedRuns.NOT_RELEVANT);
        check.due("pool with a judged document", 5, bench.pool(0, 2));
    }

    private static void poolMayHaveEveryDocument() {
        JudgedRuns bench = new JudgedRuns();
        for (int place = 0; place < 20; place++) {
            bench.append(1, 2, place, 0);
            bench.append(2, 2, 39 - place, 0);
        }
        check.due("pool to 19", 38, bench.pool(2, 19));
        check.due("pool to 20", 40, bench.pool(2, 20));
    }

    private static void toJudgeTellsTheLowestUnjudged() {
        JudgedRuns bench = new JudgedRuns();
        check.due("toJudge without runs", -1, bench.toJudge(1, 20));
        bench.append(0, 1, 39, 5);
        bench.append(0, 1, 12, 5);
        bench.append(2, 1, 30, 5);
        bench.append(2, 1, 0, 5);
        check.due("toJudge", 0, bench.toJudge(1, 20));
        bench.judge(1, 0, JudgedRuns.NOT_RELEVANT);
        check.due("toJudge after one", 12, bench.toJudge(1, 20));
        bench.judge(1, 12, JudgedRuns.RELEVANT);
        check.due("toJudge after two", 30, bench.toJudge(1, 20));
        bench.judge(2, 30, JudgedRuns.RELEVANT);
        check.due("toJudge after one for another question", 30, bench.toJudge(1, 20));
        bench.judge(1, 30, JudgedRuns.RELEVANT);
        check.due("toJudge after three", 39, bench.toJudge(1, 20));
        bench.judge(1, 39, JudgedRuns.NOT_RELEVANT);
        check.due("toJudge after all", JudgedRuns.NONE, bench.toJudge(1, 20));
    }

    private static void toJudgeFollowsJudgementsTakenBack() {
        JudgedRuns bench = new JudgedRuns();
        bench.append(0, 0, 3, 5);
        bench.judge(0, 3, JudgedRuns.RELEVANT);
        check.due("toJudge", -1, bench.toJudge(0, 1));
        bench.judge(0, 3, JudgedRuns.UNJUDGED);
        check.due("toJudge after taking back", 3, bench.toJudge(0, 1));
    }

    private static void toJudgeLooksToTheDepthAlone() {
        JudgedRuns bench = new JudgedRuns();
        bench.append(1, 0, 8, 5);
        bench.append(1, 0, 6, 5);
        bench.append(1, 0, 4, 5);
        check.due("toJudge to 1", 8, bench.toJudge(0, 1));
        check.due("toJudge to 2", 6, bench.toJudge(0, 2));
        check.due("toJudge to 3", 4, bench.toJudge(0, 3));
        bench.judge(0, 8, JudgedRuns.NOT_RELEVANT);
        check.due("toJudge to 1, judged", -1, bench.toJudge(0, 1));
    }

    private static void wrongArguments() {
        JudgedRuns bench = new JudgedRuns();
        for (int wrong : Check.outside(0, 7)) {
            check.refusesArgument("judge, question " + wrong, () -> bench.judge(wrong, 0, 0));
            check.refusesArgument("pool, question " + wrong, () -> bench.pool(wrong, 1));
            check.refusesArgument("toJudge, question " + wrong, () -> bench.toJudge(wrong, 1));
        }
        for (int wrong : Check.outside(0, 39)) {
            check.refusesArgument("judge, document " + wrong, () -> bench.judge(0, wrong, 0));
        }
        for (int wrong : Check.outside(0, 2)) {
            check.refusesArgument("judge, judgement " + wrong, () -> bench.judge(0, 0, wrong));
        }
        for (int wrong : Check.outside(1, 20)) {
            check.refusesArgument("pool, depth " + wrong, () -> bench.pool(0, wrong));
            check.refusesArgument("toJudge, depth " + wrong, () -> bench.toJudge(0, wrong));
        }
        check.due("judgement after wrong calls", 0, bench.judge(0, 0, 0));
    }
}
