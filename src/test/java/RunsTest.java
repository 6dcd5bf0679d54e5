/** Promises 1 to 5: a new object, append, empty, length, at. */
public final class RunsTest {
    private static final Check check = new Check();

    public static void main(String[] args) {
        newObjectIsEmpty();
        newObjectsShareNothing();
        appendTellsRanks();
        appendTakesTheEdgesOfItsRanges();
        appendRefusesTheTwentyFirst();
        appendRefusesADocumentTwice();
        appendRefusesARisingScore();
        appendRefusesArgumentsBeforeState();
        refusedAppendsChangeNothing();
        runsAreApart();
        emptyTellsHowManyThereWere();
        emptiedRunTakesAllAgain();
        lengthAndAt();
        wrongArguments();
        check.end();
    }

    private static void newObjectIsEmpty() {
        JudgedRuns bench = new JudgedRuns();
        for (int system = 0; system < 4; system++) {
            for (int question = 0; question < 8; question++) {
                check.due("length of a new run", 0, bench.length(system, question));
                check.due("at 1 of a new run", -1, bench.at(system, question, 1));
                check.due("hits of a new run", 0, bench.hits(system, question, 20));
            }
        }
        JudgedRuns judged = new JudgedRuns();
        for (int question = 0; question < 8; question++) {
            check.due("pool of a new object", 0, judged.pool(question, 20));
            check.due("toJudge of a new object", -1, judged.toJudge(question, 20));
            for (int document = 0; document < 40; document++) {
                check.due("judgement of a new object", 0, judged.judge(question, document, 0));
            }
        }
        JudgedRuns listed = new JudgedRuns();
        check.refusesArgument("crossed(1) of a new object", () -> listed.crossed(1));
        check.refusesArgument("click(1) of a new object", () -> listed.click(1));
        for (int system = 0; system < 4; system++) {
            check.due("credit of a new object", 0, listed.credit(system));
            check.due("meanNumerator of a new object", 0, listed.meanNumerator(system, 1));
            check.due("meanDenominator of a new object", 1, listed.meanDenominator(system, 1));
        }
        check.due("best of a new object", 0, listed.best(1));
        check.due("sum of a new object", 0, listed.sum(0, 1, 1));
        check.due("test of a new object", 256, listed.test(0, 1, 1));
    }

    private static void newObjectsShareNothing() {
        JudgedRuns one = new JudgedRuns();
        JudgedRuns other = new JudgedRuns();
        one.append(0, 0, 1, 1);
        one.judge(0, 1, JudgedRuns.RELEVANT);
        one.cross(0, 1, 0, 1);
        check.due("length of the other object", 0, other.length(0, 0));
        check.due("judgement of the other object", 0, other.judge(0, 1, 0));
        check.refusesArgument("crossed(1) of the other object", () -> other.crossed(1));
    }

    private static void appendTellsRanks() {
        JudgedRuns bench = new JudgedRuns();
        for (int rank = 1; rank <= 20; rank++) {
            check.due("append", rank, bench.append(2, 5, 40 - rank, 500 - rank / 2));
        }
        for (int rank = 1; rank <= 20; rank++) {
            check.due("at", 40 - rank, bench.at(2, 5, rank));
        }
        check.due("length", 20, bench.length(2, 5));
    }

    private static void appendTakesTheEdgesOfItsRanges() {
        JudgedRuns bench = new JudgedRuns();
        check.due("append of the highest", 1, bench.append(3, 7, 39, 1000));
        check.due("append of the same score", 2, bench.append(3, 7, 1, 1000));
        check.due("append of the lowest", 3, bench.append(3, 7, 0, 0));
        check.due("append of score 0 again", 4, bench.append(3, 7, 2, 0));
        check.due("append to the first run", 1, bench.append(0, 0, 0, 0));
        check.due("at 1", 39, bench.at(3, 7, 1));
        check.due("at 3", 0, bench.at(3, 7, 3));
    }

    private static void appendRefusesTheTwentyFirst() {
        JudgedRuns bench = new JudgedRuns();
        for (int document = 0; document < 20; document++) {
            bench.append(1, 1, document, 7);
        }
        check.refusesState("append to a full run", () -> bench.append(1, 1, 20, 7));
        check.refusesState("append of score 0 to a full run", () -> bench.append(1, 1, 30, 0));
        check.due("length of a full run", 20, bench.length(1, 1));
        check.due("at 20 of a full run", 19, bench.at(1, 1, 20));
    }

    private static void appendRefusesADocumentTwice() {
        JudgedRuns bench = new JudgedRuns();
        bench.append(0, 0, 0, 9);
        bench.append(0, 0, 4, 9);
        bench.append(0, 0, 39, 8);
        check.refusesState("append of the first document", () -> bench.append(0, 0, 0, 3));
        check.refusesState("append of the middle document", () -> bench.append(0, 0, 4, 8));
        check.refusesState("append of the last document", () -> bench.append(0, 0, 39, 8));
        check.due("length", 3, bench.length(0, 0));
    }

    private static void appendRefusesARisingScore() {
        JudgedRuns bench = new JudgedRuns();
        bench.append(0, 0, 0, 10);
        check.refusesState("append of 11 behind 10", () -> bench.append(0, 0, 1, 11));
        check.refusesState("append of 1000 behind 10", () -> bench.append(0, 0, 1, 1000));
        check.due("append of 10 behind 10", 2, bench.append(0, 0, 1, 10));
        check.due("append of 4 behind 10", 3, bench.append(0, 0, 2, 4));
        check.refusesState("append of 5 behind 4", () -> bench.append(0, 0, 3, 5));
        check.due("append of 4 behind 4", 4, bench.append(0, 0, 3, 4));
    }

    private static void appendRefusesArgumentsBeforeState() {
        JudgedRuns bench = new JudgedRuns();
        for (int document = 0; document < 20; document++) {
            bench.append(0, 0, document, 5);
        }
        check.refusesArgument("score too high, full run", () -> bench.append(0, 0, 0, 1001));
        check.refusesArgument("score too low, full run", () -> bench.append(0, 0, 0, -1));
        check.refusesArgument("no such document, full run", () -> bench.append(0, 0, 40, 9));
        bench.append(1, 0, 3, 5);
        check.refusesArgument("score too high, document twice", () -> bench.append(1, 0, 3, 1001));
        check.refusesArgument("score too high, rising", () -> bench.append(1, 0, 4, 1001));
    }

    private static void refusedAppendsChangeNothing() {
        JudgedRuns bench = new JudgedRuns();
        bench.append(0, 0, 5, 10);
        check.refusesState("rising score", () -> bench.append(0, 0, 6, 11));
        check.refusesState("document twice", () -> bench.append(0, 0, 5, 2));
        check.refusesArgument("score too low", () -> bench.append(0, 0, 7, -1));
        check.due("length", 1, bench.length(0, 0));
        check.due("at 2", -1, bench.at(0, 0, 2));
        check.due("the last score is still 10", 2, bench.append(0, 0, 6, 10));
    }

    private static void runsAreApart() {
        JudgedRuns bench = new JudgedRuns();
        for (int system = 0; system < 4; system++) {
            for (int question = 0; question < 8; question++) {
                bench.append(system, question, system * 8 + question, question);
                bench.append(system, question, 39, 0);
            }
        }
        bench.empty(1, 2);
        for (int system = 0; system < 4; system++) {
            for (int question = 0; question < 8; question++) {
                boolean emptied = system == 1 && question == 2;
                check.due("length", emptied ? 0 : 2, bench.length(system, question));
                check.due("at", emptied ? -1 : system * 8 + question, bench.at(system, question, 1));
            }
        }
    }

    private static void emptyTellsHowManyThereWere() {
        JudgedRuns bench = new JudgedRuns();
        check.due("empty of an empty run", 0, bench.empty(3, 7));
        bench.append(3, 7, 1, 1);
        bench.append(3, 7, 2, 1);
        check.due("empty of a run", 2, bench.empty(3, 7));
        check.due("empty again", 0, bench.empty(3, 7));
        check.due("length", 0, bench.length(3, 7));
        check.due("at 1", -1, bench.at(3, 7, 1));
        for (int document = 0; document < 20; document++) {
            bench.append(3, 7, document, 1);
        }
        check.due("empty of a full run", 20, bench.empty(3, 7));
    }

    private static void emptiedRunTakesAllAgain() {
        JudgedRuns bench = new JudgedRuns();
        bench.append(0, 0, 1, 3);
        bench.append(0, 0, 2, 2);
        bench.empty(0, 0);
        check.due("a higher score, the same document", 1, bench.append(0, 0, 2, 900));
        check.due("at 1", 2, bench.at(0, 0, 1));
        check.due("at 2", -1, bench.at(0, 0, 2));
        check.due("the first document again", 2, bench.append(0, 0, 1, 900));
    }

    private static void lengthAndAt() {
        JudgedRuns bench = new JudgedRuns();
        bench.append(1, 4, 0, 3);
        bench.append(1, 4, 17, 3);
        check.due("length", 2, bench.length(1, 4));
        check.due("at 1", 0, bench.at(1, 4, 1));
        check.due("at 2", 17, bench.at(1, 4, 2));
        check.due("at 3", JudgedRuns.NONE, bench.at(1, 4, 3));
        check.due("at 20", JudgedRuns.NONE, bench.at(1, 4, 20));
    }

    private static void wrongArguments() {
        JudgedRuns bench = new JudgedRuns();
        bench.append(0, 0, 1, 5);
        for (int wrong : Check.outside(0, 3)) {
            check.refusesArgument("append, system " + wrong, () -> bench.append(wrong, 0, 0, 0));
            check.refusesArgument("empty, system " + wrong, () -> bench.empty(wrong, 0));
            check.refusesArgument("length, system " + wrong, () -> bench.length(wrong, 0));
            check.refusesArgument("at, system " + wrong, () -> bench.at(wrong, 0, 1));
        }
        for (int wrong : Check.outside(0, 7)) {
            check.refusesArgument("append, question " + wrong, () -> bench.append(0, wrong, 0, 0));
            check.refusesArgument("empty, question " + wrong, () -> bench.empty(0, wrong));
            check.refusesArgument("length, question " + wrong, () -> bench.length(0, wrong));
            check.refusesArgument("at, question " + wrong, () -> bench.at(0, wrong, 1));
        }
        for (int wrong : Check.outside(0, 39)) {
            check.refusesArgument("append, document " + wrong, () -> bench.append(0, 0, wrong, 0));
        }
        for (int wrong : Check.outside(0, 1000)) {
            check.refusesArgument("append, score " + wrong, () -> bench.append(0, 0, 0, wrong));
        }
        for (int wrong : Check.outside(1, 20)) {
            check.refusesArgument("at, rank " + wrong, () -> bench.at(0, 0, wrong));
        }
        check.due("length after wrong calls", 1, bench.length(0, 0));
    }
}
