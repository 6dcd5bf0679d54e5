/**
 * Promises 1 to 8: a test of its own for each sentence of the document that names a boundary of runs
 * and judgements. What is out of range is looked at by ArgumentsTest.
 */
public final class RunBoundariesTest {
    private static final Check check = new Check();

    public static void main(String[] args) {
        aNewObjectHasEmptyRuns();
        aNewObjectHasNoJudgements();
        thereAreAllSystemsAndQuestions();
        thereAreAllDocuments();
        aRunHasUpToTwentyDocuments();
        aFullRunTakesNoOther();
        aFullRunTakesAgainWhenEmptied();
        aDocumentStandsAtMostOnceInARun();
        aDocumentMayStandInEveryRun();
        scoresNeverRise();
        theLastScoreCountsAlone();
        anEmptyRunTakesAnyScore();
        appendReturnsTheRank();
        theArgumentGoesBeforeTheState();
        aRefusedAppendChangesNothing();
        emptyReturnsHowManyItHad();
        emptyEmptiesThatRunAlone();
        lengthFromEmptyToFull();
        atTellsNoneBehindTheEnd();
        judgeReturnsTheJudgementBefore();
        judgeTakesTheJudgementBack();
        theEmptyPoolHasNone();
        thePoolTakesAsManyAsTheDepthTells();
        thePoolTakesAShorterRunWhole();
        thePoolTakesRunsAsTheyStand();
        aDocumentOfSeveralRunsIsOnceInThePool();
        thePoolMayHaveAllDocuments();
        toJudgeTellsTheLowestNumber();
        toJudgeTellsNoneOfAnEmptyPool();
        toJudgeTellsNoneIfAllAreJudged();
        toJudgeTellsWhatIsTakenBack();
        theLastOfAllCallsAnswers();
        check.end();
    }

    private static void appendAll(JudgedRuns bench, int system, int question, int score, int... documents) {
        for (int document : documents) {
            bench.append(system, question, document, score);
        }
    }

    private static JudgedRuns withFullRun(int system, int question, int score) {
        JudgedRuns bench = new JudgedRuns();
        for (int document = 0; document < 20; document++) {
            bench.append(system, question, document, score);
        }
        return bench;
    }

    private static void aNewObjectHasEmptyRuns() {
        check.sentence("Promise 1: Empty runs");
        JudgedRuns bench = new JudgedRuns();
        for (int system = 0; system < 4; system++) {
            for (int question = 0; question < 8; question++) {
                check.due("length", 0, bench.length(system, question));
                check.due("at 1", JudgedRuns.NONE, bench.at(system, question, 1));
                check.due("at 20", JudgedRuns.NONE, bench.at(system, question, 20));
                check.due("empty", 0, bench.empty(system, question));
            }
        }
        check.refusesArgument("crossed(1) without a list", () -> bench.crossed(1));
        check.refusesArgument("click(1) without a list", () -> bench.click(1));
    }

    private static void aNewObjectHasNoJudgements() {
        check.sentence("Promise 1: no judgements; At first none is judged");
        JudgedRuns bench = new JudgedRuns();
        for (int question = 0; question < 8; question++) {
            for (int document = 0; document < 40; document++) {
                check.due("judge", JudgedRuns.UNJUDGED, bench.judge(question, document, JudgedRuns.RELEVANT));
            }
        }
        check.due("judge again", JudgedRuns.RELEVANT, bench.judge(7, 39, JudgedRuns.RELEVANT));
    }

    private static void thereAreAllSystemsAndQuestions() {
        check.sentence("There are the systems 0 to 3, the questions 0 to 7");
        JudgedRuns bench = new JudgedRuns();
        for (int run = 0; run < 32; run++) {
            check.due("append", 1, bench.append(run / 8, run % 8, run, run));
            check.due("append", 2, bench.append(run / 8, run % 8, 39 - run / 8, 0));
        }
        for (int run = 0; run < 32; run++) {
            check.due("length", 2, bench.length(run / 8, run % 8));
            check.due("at 1", run, bench.at(run / 8, run % 8, 1));
            check.due("at 2", 39 - run / 8, bench.at(run / 8, run % 8, 2));
            check.due("at 3", JudgedRuns.NONE, bench.at(run / 8, run % 8, 3));
        }
    }

    private static void thereAreAllDocuments() {
        check.sentence("There are .. the documents 0 to 39");
        JudgedRuns bench = new JudgedRuns();
        for (int document = 0; document < 40; document++) {
            check.due("append", document % 20 + 1, bench.append(document / 20, 3, document, 1000));
            bench.judge(3, document, document % 3);
        }
        for (int document = 0; document < 40; document++) {
            check.due("at", document, bench.at(document / 20, 3, document % 20 + 1));
            check.due("judge", document % 3, bench.judge(3, document, JudgedRuns.NOT_RELEVANT));
        }
    }

    private static void aRunHasUpToTwentyDocuments() {
        check.sentence("The run .. is a list of up to 20 documents");
        JudgedRuns bench = new JudgedRuns();
        for (int rank = 1; rank <= 20; rank++) {
            check.due("append", rank, bench.append(3, 7, 40 - rank, 1000 - rank));
        }
        check.due("length", 20, bench.length(3, 7));
        check.due("at 20", 20, bench.at(3, 7, 20));
    }

    private static void aFullRunTakesNoOther() {
        check.sentence("Promise 2: throws IllegalStateException if the run has 20 documents");
        JudgedRuns bench = withFullRun(1, 2, 500);
        check.refusesState("a new document with the last score", () -> bench.append(1, 2, 20, 500));
        check.refusesState("a new document with a lower score", () -> bench.append(1, 2, 39, 0));
        check.refusesState("a document of the run", () -> bench.append(1, 2, 0, 500));
        check.due("length", 20, bench.length(1, 2));
        check.due("at 20", 19, bench.at(1, 2, 20));
        check.due("append to another system", 1, bench.append(0, 2, 20, 500));
        check.due("append to another question", 1, bench.append(1, 3, 20, 500));
    }

    private static void aFullRunTakesAgainWhenEmptied() {
        check.sentence("Promise 3: Empties a run, a full one");
        JudgedRuns bench = withFullRun(0, 0, 0);
        check.due("empty", 20, bench.empty(0, 0));
        for (int rank = 1; rank <= 20; rank++) {
            check.due("append", rank, bench.append(0, 0, 40 - rank, 1000));
        }
        check.refusesState("the 21st", () -> bench.append(0, 0, 0, 0));
        check.due("empty again", 20, bench.empty(0, 0));
    }

    private static void aDocumentStandsAtMostOnceInARun() {
        check.sentence("Promise 2: throws IllegalStateException if the run has .. this one");
        JudgedRuns bench = new JudgedRuns();
        bench.append(2, 6, 0, 9);
        check.refusesState("document 0, the only one", () -> bench.append(2, 6, 0, 9));
        bench.append(2, 6, 39, 9);
        bench.append(2, 6, 20, 4);
        check.refusesState("the first one", () -> bench.append(2, 6, 0, 4));
        check.refusesState("the middle one", () -> bench.append(2, 6, 39, 0));
        check.refusesState("the last one", () -> bench.append(2, 6, 20, 4));
        check.due("another one", 4, bench.append(2, 6, 1, 4));
    }

    private static void aDocumentMayStandInEveryRun() {
        check.sentence("each at most once, in a run; others may have it too");
        JudgedRuns bench = new JudgedRuns();
        for (int run = 0; run < 32; run++) {
            check.due("append", 1, bench.append(run / 8, run % 8, 17, 3));
        }
        bench.empty(2, 2);
        check.due("append after empty", 1, bench.append(2, 2, 17, 3));
    }

    private static void scoresNeverRise() {
        check.sentence("Promise 2: throws IllegalStateException if .. its last document has a lower score");
        JudgedRuns bench = new JudgedRuns();
        bench.append(0, 0, 0, 999);
        check.refusesState("1000 behind 999", () -> bench.append(0, 0, 1, 1000));
        check.due("999 behind 999", 2, bench.append(0, 0, 1, 999));
        check.due("998 behind 999", 3, bench.append(0, 0, 2, 998));
        check.due("1 behind 998", 4, bench.append(0, 0, 3, 1));
        check.refusesState("2 behind 1", () -> bench.append(0, 0, 4, 2));
        check.due("0 behind 1", 5, bench.append(0, 0, 4, 0));
        check.refusesState("1 behind 0", () -> bench.append(0, 0, 5, 1));
        check.due("0 behind 0", 6, bench.append(0, 0, 5, 0));
    }

    private static void theLastScoreCountsAlone() {
        check.sentence("its last document has a lower score: not one before it, nor one of another run");
        JudgedRuns bench = new JudgedRuns();
        bench.append(1, 1, 0, 1000);
        bench.append(1, 1, 1, 10);
        check.refusesState("11, below the first and above the last", () -> bench.append(1, 1, 2, 11));
        check.due("10, as the last", 3, bench.append(1, 1, 2, 10));
        check.due("11 for another question", 1, bench.append(1, 2, 2, 11));
        check.due("11 of another system", 1, bench.append(2, 1, 2, 11));
    }

    private static void anEmptyRunTakesAnyScore() {
        check.sentence("its last document has a lower score: an empty run has none");
        JudgedRuns bench = new JudgedRuns();
        check.due("1000", 1, bench.append(0, 0, 0, 1000));
        check.due("0", 1, bench.append(0, 1, 0, 0));
        bench.empty(0, 1);
        check.due("1000 behind what was emptied", 1, bench.append(0, 1, 0, 1000));
        check.due("0 behind 1000", 2, bench.append(0, 1, 1, 0));
        bench.empty(0, 1);
        check.due("1 behind what was emptied", 1, bench.append(0, 1, 2, 1));
    }

    private static void appendReturnsTheRank() {
        check.sentence("Promise 2: Returns its rank; The rank .. is its place, from 1 on");
        JudgedRuns bench = new JudgedRuns();
        int[] documents = {39, 0, 20, 19, 1};
        for (int place = 0; place < documents.length; place++) {
            check.due("append", place + 1, bench.append(3, 0, documents[place], 7));
            check.due("at", documents[place], bench.at(3, 0, place + 1));
        }
    }

    private static void theArgumentGoesBeforeTheState() {
        check.sentence("if both apply, IllegalArgumentException is thrown");
        JudgedRuns full = withFullRun(0, 0, 5);
        check.refusesArgument("full, document 40", () -> full.append(0, 0, 40, 5));
        check.refusesArgument("full, document -1", () -> full.append(0, 0, -1, 5));
        check.refusesArgument("full, score 1001", () -> full.append(0, 0, 20, 1001));
        check.refusesArgument("full, score -1", () -> full.append(0, 0, 20, -1));
        check.refusesArgument("full, system 4", () -> full.append(4, 0, 20, 5));
        check.refusesArgument("full, question 8", () -> full.append(0, 8, 20, 5));
        check.refusesArgument("had already, score 1001", () -> full.append(0, 0, 19, 1001));
        JudgedRuns single = new JudgedRuns();
        single.append(0, 0, 1, 5);
        check.refusesArgument("had already, score -1", () -> single.append(0, 0, 1, -1));
        check.refusesArgument("rising, score 1001", () -> single.append(0, 0, 2, 1001));
        check.refusesArgument("rising, document 40", () -> single.append(0, 0, 40, 6));
        check.refusesArgument("rising, document -1", () -> single.append(0, 0, -1, 6));
    }

    private static void aRefusedAppendChangesNothing() {
        check.sentence("A call that throws changes nothing: append");
        Scene.refusesState(check, "to a full run", bench -> bench.append(0, 0, 30, 0));
        Scene.refusesState(check, "of a document of a full run", bench -> bench.append(0, 0, 19, 0));
        Scene.refusesState(check, "of the first document again", bench -> bench.append(1, 0, 20, 10));
        Scene.refusesState(check, "of the last document again", bench -> bench.append(1, 0, 39, 2));
        Scene.refusesState(check, "of a rising score", bench -> bench.append(3, 0, 30, 9));
        Scene.refusesState(check, "of the highest score", bench -> bench.append(3, 7, 30, 1000));
        Scene.refusesState(check, "of a document again, rising", bench -> bench.append(3, 0, 7, 9));
    }

    private static void emptyReturnsHowManyItHad() {
        check.sentence("Promise 3: Returns how many documents it had");
        JudgedRuns bench = new JudgedRuns();
        for (int had = 0; had <= 20; had++) {
            for (int document = 0; document < had; document++) {
                bench.append(2, 3, document, 0);
            }
            check.due("empty", had, bench.empty(2, 3));
            check.due("empty again", 0, bench.empty(2, 3));
            check.due("length", 0, bench.length(2, 3));
        }
    }

    private static void emptyEmptiesThatRunAlone() {
        check.sentence("Promise 3: Empties a run");
        for (int emptied = 0; emptied < 32; emptied++) {
            JudgedRuns bench = new JudgedRuns();
            for (int run = 0; run < 32; run++) {
                bench.append(run / 8, run % 8, run, run);
            }
            bench.judge(emptied % 8, emptied, JudgedRuns.RELEVANT);
            check.due("empty", 1, bench.empty(emptied / 8, emptied % 8));
            for (int run = 0; run < 32; run++) {
                check.due("length", run == emptied ? 0 : 1, bench.length(run / 8, run % 8));
                check.due("at 1", run == emptied ? -1 : run, bench.at(run / 8, run % 8, 1));
            }
            check.due("judgements stay", JudgedRuns.RELEVANT, bench.judge(emptied % 8, emptied, 0));
        }
    }

    private static void lengthFromEmptyToFull() {
        check.sentence("Promise 4: Returns the number of documents of a run");
        JudgedRuns bench = new JudgedRuns();
        for (int document = 0; document < 20; document++) {
            check.due("length", document, bench.length(0, 7));
            bench.append(0, 7, document, 1);
        }
        check.due("length of a full run", 20, bench.length(0, 7));
        check.refusesState("the 21st", () -> bench.append(0, 7, 20, 1));
        check.due("length after a refused append", 20, bench.length(0, 7));
        bench.empty(0, 7);
        check.due("length of an emptied run", 0, bench.length(0, 7));
    }

    private static void atTellsNoneBehindTheEnd() {
        check.sentence("Promise 5: NONE if the run is shorter");
        JudgedRuns bench = new JudgedRuns();
        for (int length = 0; length <= 20; length++) {
            for (int rank = 1; rank <= 20; rank++) {
                check.due("at " + rank + " of " + length, rank > length ? -1 : rank + 9, bench.at(1, 5, rank));
            }
            if (length < 20) {
                bench.append(1, 5, length + 10, 1000 - length);
            }
        }
        bench.empty(1, 5);
        check.due("at 1 of what was emptied", -1, bench.at(1, 5, 1));
        bench.append(1, 5, 0, 0);
        check.due("at 1 of document 0", 0, bench.at(1, 5, 1));
        check.due("at 2 of what was emptied", -1, bench.at(1, 5, 2));
    }

    private static void judgeReturnsTheJudgementBefore() {
        check.sentence("Promise 6: Returns the judgement before");
        for (int before = 0; before <= 2; before++) {
            for (int after = 0; after <= 2; after++) {
                JudgedRuns bench = new JudgedRuns();
                check.due("the first one", 0, bench.judge(4, 21, before));
                check.due("the second one", before, bench.judge(4, 21, after));
                check.due("the third one", after, bench.judge(4, 21, before));
                check.due("for another question", 0, bench.judge(5, 21, 0));
                check.due("of another document", 0, bench.judge(4, 22, 0));
            }
        }
        Scene.refusesArgument(check, "judgement -1", bench -> bench.judge(0, 0, -1));
        Scene.refusesArgument(check, "judgement 3", bench -> bench.judge(0, 0, 3));
    }

    private static void judgeTakesTheJudgementBack() {
        check.sentence("Promise 6: or takes its judgement back");
        JudgedRuns bench = new JudgedRuns();
        bench.append(0, 0, 39, 0);
        bench.judge(0, 39, JudgedRuns.RELEVANT);
        check.due("taken back", JudgedRuns.RELEVANT, bench.judge(0, 39, JudgedRuns.UNJUDGED));
        check.due("toJudge", 39, bench.toJudge(0, 1));
        check.due("hits", 0, bench.hits(0, 0, 1));
        check.due("taken back again", JudgedRuns.UNJUDGED, bench.judge(0, 39, JudgedRuns.UNJUDGED));
    }

    private static void theEmptyPoolHasNone() {
        check.sentence("Promise 7: of a question without documents");
        JudgedRuns bench = new JudgedRuns();
        check.due("pool without runs", 0, bench.pool(3, 20));
        bench.judge(3, 1, JudgedRuns.RELEVANT);
        check.due("pool without runs, with a judgement", 0, bench.pool(3, 20));
        bench.append(0, 2, 1, 1);
        check.due("pool without runs, with one for another question", 0, bench.pool(3, 20));
        bench.append(0, 3, 1, 1);
        check.due("pool with one", 1, bench.pool(3, 1));
        bench.empty(0, 3);
        check.due("pool after empty", 0, bench.pool(3, 20));
    }

    private static void thePoolTakesAsManyAsTheDepthTells() {
        check.sentence("among the first ones of some run for it, as many as the depth tells");
        JudgedRuns bench = withFullRun(2, 1, 7);
        for (int depth = 1; depth <= 20; depth++) {
            check.due("pool to " + depth, depth, bench.pool(1, depth));
        }
    }

    private static void thePoolTakesAShorterRunWhole() {
        check.sentence("as many as the depth tells: a shorter run has all of its own in the pool");
        JudgedRuns bench = new JudgedRuns();
        appendAll(bench, 0, 1, 5, 8);
        appendAll(bench, 3, 1, 5, 1, 2, 3);
        int[] due = {2, 3, 4, 4};
        for (int depth = 1; depth <= 4; depth++) {
            check.due("pool to " + depth, due[depth - 1], bench.pool(1, depth));
        }
        check.due("pool to 20", 4, bench.pool(1, 20));
    }

    private static void thePoolTakesRunsAsTheyStand() {
        check.sentence("among the first ones of some run: the run itself, not all of its orders");
        JudgedRuns bench = new JudgedRuns();
        appendAll(bench, 1, 1, 5, 30, 10, 20);
        check.due("pool to 1", 1, bench.pool(1, 1));
        check.due("toJudge to 1", 30, bench.toJudge(1, 1));
        check.due("toJudge to 2", 10, bench.toJudge(1, 2));
    }

    private static void aDocumentOfSeveralRunsIsOnceInThePool() {
        check.sentence("Returns how many documents are in the pool: one of several runs counts once");
        JudgedRuns bench = new JudgedRuns();
        appendAll(bench, 0, 0, 5, 1, 2);
        appendAll(bench, 1, 0, 5, 2, 1);
        appendAll(bench, 2, 0, 5, 1);
        appendAll(bench, 3, 0, 5, 3, 1);
        check.due("pool to 1", 3, bench.pool(0, 1));
        check.due("pool to 2", 3, bench.pool(0, 2));
        bench.empty(0, 0);
        check.due("pool to 1 without a run", 3, bench.pool(0, 1));
        bench.empty(3, 0);
        check.due("pool to 1 without two runs", 2, bench.pool(0, 1));
        // Deep in one run and at the head of another, it is in the pool by the other.
        check.due("toJudge to 1", 1, bench.toJudge(0, 1));
    }

    private static void thePoolMayHaveAllDocuments() {
        check.sentence("Returns how many documents are in the pool: all 40");
        JudgedRuns bench = new JudgedRuns();
        for (int document = 0; document < 40; document++) {
            bench.append(document % 4, 7, document, 1);
        }
        check.due("pool to 1", 4, bench.pool(7, 1));
        check.due("pool to 9", 36, bench.pool(7, 9));
        check.due("pool to 10", 40, bench.pool(7, 10));
        check.due("pool to 20", 40, bench.pool(7, 20));
    }

    private static void toJudgeTellsTheLowestNumber() {
        check.sentence("Promise 8: Returns the document with the lowest number .. that is not judged");
        JudgedRuns bench = new JudgedRuns();
        appendAll(bench, 3, 2, 5, 39, 38, 2);
        appendAll(bench, 0, 2, 5, 37, 0, 1);
        int[] due = {0, 1, 2, 37, 38, 39};
        for (int document : due) {
            check.due("toJudge to 3", document, bench.toJudge(2, 3));
            bench.judge(2, document, document % 2 == 0 ? JudgedRuns.NOT_RELEVANT : JudgedRuns.RELEVANT);
        }
        check.due("toJudge to 3", JudgedRuns.NONE, bench.toJudge(2, 3));
    }

    private static void toJudgeTellsNoneOfAnEmptyPool() {
        check.sentence("Promise 8: NONE if there is none, in an empty pool");
        JudgedRuns bench = new JudgedRuns();
        check.due("toJudge without runs", JudgedRuns.NONE, bench.toJudge(6, 20));
        bench.append(0, 5, 1, 1);
        check.due("toJudge with a run for another question", JudgedRuns.NONE, bench.toJudge(6, 20));
        bench.append(0, 6, 0, 1);
        check.due("toJudge with document 0", 0, bench.toJudge(6, 1));
        bench.empty(0, 6);
        check.due("toJudge after empty", JudgedRuns.NONE, bench.toJudge(6, 20));
    }

    private static void toJudgeTellsNoneIfAllAreJudged() {
        check.sentence("Promise 8: NONE if there is none, all being judged");
        JudgedRuns bench = new JudgedRuns();
        for (int document = 0; document < 40; document++) {
            bench.append(document / 20, 0, document, 1);
            bench.judge(0, document, 1 + document % 2);
        }
        check.due("toJudge to 20", JudgedRuns.NONE, bench.toJudge(0, 20));
        bench.judge(0, 39, JudgedRuns.UNJUDGED);
        check.due("toJudge to 19, the last one beyond it", JudgedRuns.NONE, bench.toJudge(0, 19));
        check.due("toJudge to 20, the last one", 39, bench.toJudge(0, 20));
    }

    private static void toJudgeTellsWhatIsTakenBack() {
        check.sentence("that is not judged: one whose judgement is taken back is not");
        JudgedRuns bench = new JudgedRuns();
        appendAll(bench, 1, 4, 0, 6, 5);
        bench.judge(4, 5, JudgedRuns.RELEVANT);
        check.due("toJudge, one judged", 6, bench.toJudge(4, 2));
        bench.judge(4, 5, JudgedRuns.UNJUDGED);
        check.due("toJudge, taken back", 5, bench.toJudge(4, 2));
    }

    private static void theLastOfAllCallsAnswers() {
        check.sentence("An object is used for at most 512 calls: the last of them is answered as the first");
        JudgedRuns filled = new JudgedRuns();
        for (int call = 1; call <= 511; call++) {
            int place = (call - 1) % 21;
            if (place == 20) {
                check.due("empty", 20, filled.empty(3, 7));
            } else {
                check.due("append", place + 1, filled.append(3, 7, (place + call) % 40, 1000 - call));
            }
        }
        check.due("the 512th", 7, filled.length(3, 7));
        JudgedRuns judged = new JudgedRuns();
        for (int call = 0; call < 511; call++) {
            check.due("judge", call < 320 ? 0 : (call - 320) % 3, judged.judge(call / 40 % 8, call % 40, call % 320 % 3));
        }
        check.due("the 512th", 510 % 320 % 3, judged.judge(510 / 40 % 8, 510 % 40, 0));
    }
}
