/**
 * Promises 17 to 22: a test of its own for each sentence of the document that names a boundary of
 * crossed lists and tests. What is out of range is looked at by ArgumentsTest.
 */
public final class ListBoundariesTest {
    private static final Check check = new Check();

    public static void main(String[] args) {
        theFirstSystemBegins();
        theSystemsTakeTurns();
        aTurnGivesTheFirstThatIsNotInTheList();
        aTurnMayHaveToLookToTheLastRank();
        theListIsNoLongerThanTheLength();
        theLengthMayEndATurnEarly();
        aSystemThatHasNonePasses();
        theSystemsPassInTurn();
        theListEndsWhenBothHaveNone();
        theListOfEmptyRunsIsEmpty();
        fullRunsFillTheLongestList();
        runsAreCrossedAsTheyStand();
        crossingChangesNoRun();
        theListTakesThePlaceOfTheOneBefore();
        theListBeginsWithoutClicks();
        aRefusedCrossKeepsTheList();
        thereIsNoListAtFirst();
        crossedFromTheFirstToTheLastRank();
        crossedChangesNothing();
        aShorterListEndsEarlier();
        theClickIsCreditedToTheGiver();
        aClickedOneIsRefused();
        aRefusedClickChangesNothing();
        theArgumentGoesBeforeTheState();
        clicksAreOfTheListThatStands();
        creditWithoutAList();
        creditOfAllClicks();
        creditOfSystemsThatAreNotCrossed();
        theListStaysWhenItsRunsChange();
        sumOfEmptyRuns();
        sumTakesTheFirstLessTheSecond();
        sumOfRunsAsTheyStand();
        sumOfShorterRuns();
        sumOfAllQuestions();
        sumFromTheLeastToTheGreatest();
        sumOfASystemWithItself();
        testOfNoDifference();
        testOfOneDifference();
        testCountsAtLeastTheSum();
        testTakesSumsWithoutTheirSign();
        testOfASumOfNone();
        testOfAllQuestions();
        testCountsAllSets();
        testLooksToTheDepth();
        testOfASystemWithItself();
        theLastOfAllCallsAnswers();
        check.end();
    }

    private static void fill(JudgedRuns bench, int system, int question, int... documents) {
        for (int document : documents) {
            bench.append(system, question, document, 5);
        }
    }

    private static JudgedRuns withRuns(int[] first, int[] second) {
        JudgedRuns bench = new JudgedRuns();
        fill(bench, 0, 0, first);
        fill(bench, 1, 0, second);
        return bench;
    }

    private static int[] row(int... documents) {
        return documents;
    }

    private static void list(JudgedRuns bench, int... documents) {
        for (int rank = 1; rank <= documents.length; rank++) {
            check.due("crossed(" + rank + ")", documents[rank - 1], bench.crossed(rank));
        }
        check.refusesArgument("crossed behind the list", () -> bench.crossed(documents.length + 1));
    }

    private static void givers(JudgedRuns bench, int... systems) {
        for (int rank = 1; rank <= systems.length; rank++) {
            check.due("click(" + rank + ")", systems[rank - 1], bench.click(rank));
        }
    }

    private static void theFirstSystemBegins() {
        check.sentence("beginning with the first system");
        JudgedRuns bench = withRuns(row(5), row(6));
        check.due("cross of 0 and 1", 1, bench.cross(0, 1, 0, 1));
        list(bench, 5);
        check.due("cross of 1 and 0", 1, bench.cross(1, 0, 0, 1));
        list(bench, 6);
        givers(bench, 1);
    }

    private static void theSystemsTakeTurns() {
        check.sentence("they take turns");
        JudgedRuns bench = withRuns(row(1, 2, 3), row(11, 12, 13));
        check.due("cross", 6, bench.cross(0, 1, 0, 20));
        list(bench, 1, 11, 2, 12, 3, 13);
        givers(bench, 0, 1, 0, 1, 0, 1);
    }

    private static void aTurnGivesTheFirstThatIsNotInTheList() {
        check.sentence("in its turn a system gives the first document of its run that is not in the list yet");
        JudgedRuns bench = withRuns(row(1, 2, 3, 4), row(1, 3, 2, 5));
        check.due("cross", 5, bench.cross(0, 1, 0, 20));
        list(bench, 1, 3, 2, 5, 4);
        givers(bench, 0, 1, 0, 1, 0);
        JudgedRuns zero = withRuns(row(0), row(0, 39));
        check.due("cross with document 0", 2, zero.cross(0, 1, 0, 20));
        list(zero, 0, 39);
        givers(zero, 0, 1);
    }

    private static void aTurnMayHaveToLookToTheLastRank() {
        check.sentence("the first document of its run that is not in the list yet: the last one of a full run");
        JudgedRuns bench = new JudgedRuns();
        for (int document = 0; document < 20; document++) {
            bench.append(2, 6, document, 9);
        }
        // System 3 has the same ones, but for its last.
        for (int place = 0; place < 19; place++) {
            bench.append(3, 6, 18 - place, 9);
        }
        bench.append(3, 6, 39, 9);
        check.due("cross", 20, bench.cross(2, 3, 6, 20));
        check.due("crossed(19)", 9, bench.crossed(19));
        check.due("crossed(20)", 39, bench.crossed(20));
        check.due("click(20)", 3, bench.click(20));
    }

    private static void theListIsNoLongerThanTheLength() {
        check.sentence("as long as the list is shorter than the length");
        JudgedRuns bench = withRuns(row(1, 2, 3), row(11, 12, 13));
        int[] due = {1, 11, 2, 12, 3, 13};
        for (int length = 1; length <= 6; length++) {
            check.due("cross to " + length, length, bench.cross(0, 1, 0, length));
            check.due("the last one", due[length - 1], bench.crossed(length));
            int behind = length + 1;
            check.refusesArgument("one behind", () -> bench.crossed(behind));
        }
        check.due("cross to 7", 6, bench.cross(0, 1, 0, 7));
    }

    private static void theLengthMayEndATurnEarly() {
        check.sentence("as long as the list is shorter than the length: not at all for the second system");
        JudgedRuns bench = withRuns(row(1, 2), row(11, 12));
        check.due("cross to 1", 1, bench.cross(0, 1, 0, 1));
        check.due("cross to 3", 3, bench.cross(0, 1, 0, 3));
        list(bench, 1, 11, 2);
        givers(bench, 0, 1, 0);
        check.due("credit of the second", 1, bench.credit(1));
    }

    private static void aSystemThatHasNonePasses() {
        check.sentence("a system that has none passes");
        JudgedRuns bench = withRuns(row(), row(7, 8, 9));
        check.due("cross, the first one is empty", 3, bench.cross(0, 1, 0, 20));
        list(bench, 7, 8, 9);
        givers(bench, 1, 1, 1);
        check.due("cross, the second one is empty", 3, bench.cross(1, 0, 0, 20));
        list(bench, 7, 8, 9);
        givers(bench, 1, 1, 1);
        check.due("cross to 2, the first one is empty", 2, bench.cross(0, 1, 0, 2));
        list(bench, 7, 8);
    }

    private static void theSystemsPassInTurn() {
        check.sentence("a system that has none passes: all of its own are in the list");
        JudgedRuns bench = withRuns(row(3, 1), row(1, 2, 4, 5));
        check.due("cross", 5, bench.cross(0, 1, 0, 20));
        list(bench, 3, 1, 2, 4, 5);
        givers(bench, 0, 1, 1, 1, 1);
    }

    private static void theListEndsWhenBothHaveNone() {
        check.sentence("the list ends when both have none");
        JudgedRuns same = withRuns(row(1, 2, 3), row(1, 2, 3));
        check.due("cross of the same", 3, same.cross(0, 1, 0, 20));
        list(same, 1, 2, 3);
        givers(same, 0, 1, 0);
        JudgedRuns other = withRuns(row(1), row(2, 3));
        check.due("cross of three", 3, other.cross(0, 1, 0, 4));
        list(other, 1, 2, 3);
    }

    private static void theListOfEmptyRunsIsEmpty() {
        check.sentence("the list ends when both have none: at once");
        JudgedRuns bench = withRuns(row(), row());
        fill(bench, 2, 0, 1);
        fill(bench, 0, 1, 1);
        check.due("cross to 1", 0, bench.cross(0, 1, 0, 1));
        check.due("cross to 20", 0, bench.cross(0, 1, 0, 20));
        check.refusesArgument("crossed(1)", () -> bench.crossed(1));
        check.refusesArgument("crossed(0)", () -> bench.crossed(0));
        check.refusesArgument("click(1)", () -> bench.click(1));
        check.due("credit", 0, bench.credit(0));
    }

    private static void fullRunsFillTheLongestList() {
        check.sentence("to a length, 1 to 20: full runs, the greatest length");
        JudgedRuns bench = new JudgedRuns();
        for (int place = 0; place < 20; place++) {
            bench.append(3, 7, place, 1000);
            bench.append(0, 7, 39 - place, 0);
        }
        check.due("cross", 20, bench.cross(3, 0, 7, 20));
        for (int rank = 1; rank <= 20; rank++) {
            check.due("crossed", rank % 2 == 1 ? rank / 2 : 40 - rank / 2, bench.crossed(rank));
            check.due("click", rank % 2 == 1 ? 3 : 0, bench.click(rank));
        }
        check.due("credit of the first", 10, bench.credit(3));
        check.due("credit of the second", 10, bench.credit(0));
        check.refusesArgument("crossed(21)", () -> bench.crossed(21));
        check.refusesArgument("click(21)", () -> bench.click(21));
    }

    private static void runsAreCrossedAsTheyStand() {
        check.sentence("Promise 17: Crosses two runs, whatever their scores and judgements");
        JudgedRuns bench = new JudgedRuns();
        bench.append(0, 2, 9, 1);
        bench.append(0, 2, 8, 1);
        bench.append(1, 2, 7, 1000);
        bench.append(1, 2, 6, 1000);
        bench.judge(2, 6, JudgedRuns.RELEVANT);
        bench.judge(2, 9, JudgedRuns.NOT_RELEVANT);
        check.due("cross", 4, bench.cross(0, 1, 2, 4));
        list(bench, 9, 7, 8, 6);
    }

    private static void crossingChangesNoRun() {
        check.sentence("Promise 17: Crosses two runs, which stay as they are");
        JudgedRuns bench = withRuns(row(1, 2), row(2, 3));
        bench.cross(0, 1, 0, 20);
        bench.click(1);
        check.due("length of 0", 2, bench.length(0, 0));
        check.due("length of 1", 2, bench.length(1, 0));
        check.due("at 1 of 0", 1, bench.at(0, 0, 1));
        check.due("at 1 of 1", 2, bench.at(1, 0, 1));
        check.due("a click is no judgement", 0, bench.judge(0, 1, 0));
    }

    private static void theListTakesThePlaceOfTheOneBefore() {
        check.sentence("Promise 17: the list takes the place of the one before");
        JudgedRuns bench = withRuns(row(1, 2), row(3, 4));
        fill(bench, 2, 5, 30);
        bench.cross(0, 1, 0, 4);
        list(bench, 1, 3, 2, 4);
        check.due("cross, a shorter one", 1, bench.cross(2, 3, 5, 20));
        list(bench, 30);
        check.due("cross, an empty one", 0, bench.cross(0, 1, 7, 20));
        list(bench);
        check.due("cross, a longer one", 3, bench.cross(1, 0, 0, 3));
        list(bench, 3, 1, 4);
    }

    private static void theListBeginsWithoutClicks() {
        check.sentence("Promise 17: without clicks");
        JudgedRuns bench = withRuns(row(1, 2), row(3, 4));
        bench.cross(0, 1, 0, 4);
        givers(bench, 0, 1, 0, 1);
        bench.cross(0, 1, 0, 4);
        for (int system = 0; system < 4; system++) {
            check.due("credit of " + system, 0, bench.credit(system));
        }
        givers(bench, 0, 1, 0, 1);
        // Also where the list was shorter between.
        bench.cross(0, 1, 0, 1);
        bench.cross(0, 1, 0, 4);
        check.due("credit of 1", 0, bench.credit(1));
        givers(bench, 0, 1, 0, 1);
    }

    private static void aRefusedCrossKeepsTheList() {
        check.sentence("A call that throws changes nothing: cross");
        Scene.refusesArgument(check, "length 0", bench -> bench.cross(1, 3, 0, 0));
        Scene.refusesArgument(check, "length 21", bench -> bench.cross(1, 3, 0, 21));
        Scene.refusesArgument(check, "question 8", bench -> bench.cross(1, 3, 8, 20));
        Scene.refusesArgument(check, "second 4", bench -> bench.cross(1, 4, 0, 20));
        Scene.refusesArgument(check, "first -1", bench -> bench.cross(-1, 3, 0, 20));
        Scene.refusesArgument(check, "the same", bench -> bench.cross(1, 1, 0, 20));
    }

    private static void thereIsNoListAtFirst() {
        check.sentence("1 to the length of the list: before the first cross there is none");
        for (int rank : row(Integer.MIN_VALUE, -1, 0, 1, 2, 20, 21, Integer.MAX_VALUE)) {
            JudgedRuns bench = withRuns(row(1, 2), row(3, 4));
            check.refusesArgument("crossed(" + rank + ")", () -> bench.crossed(rank));
            check.refusesArgument("click(" + rank + ")", () -> bench.click(rank));
            check.due("credit", 0, bench.credit(0));
        }
    }

    private static void crossedFromTheFirstToTheLastRank() {
        check.sentence("Promise 18: rank: 1 to the length of the list");
        for (int length = 1; length <= 4; length++) {
            JudgedRuns bench = withRuns(row(39, 38), row(0, 1));
            bench.cross(0, 1, 0, length);
            int[] all = {39, 0, 38, 1};
            check.refusesArgument("crossed(0)", () -> bench.crossed(0));
            for (int rank = 1; rank <= length; rank++) {
                check.due("crossed(" + rank + ")", all[rank - 1], bench.crossed(rank));
            }
            int behind = length + 1;
            check.refusesArgument("crossed(" + behind + ")", () -> bench.crossed(behind));
        }
    }

    private static void crossedChangesNothing() {
        check.sentence("Promise 18 tells and changes nothing");
        JudgedRuns bench = withRuns(row(1), row(2));
        bench.cross(0, 1, 0, 2);
        bench.click(2);
        for (int time = 0; time < 3; time++) {
            check.due("crossed(1)", 1, bench.crossed(1));
            check.due("crossed(2), a clicked one", 2, bench.crossed(2));
        }
        check.due("credit", 1, bench.credit(1));
        check.due("click(1)", 0, bench.click(1));
    }

    private static void aShorterListEndsEarlier() {
        check.sentence("1 to the length of the list: of the one that stands, not of the one before");
        JudgedRuns bench = withRuns(row(1, 2), row(3, 4));
        bench.cross(0, 1, 0, 4);
        bench.cross(0, 1, 0, 3);
        check.refusesArgument("crossed(4)", () -> bench.crossed(4));
        check.refusesArgument("click(4)", () -> bench.click(4));
        // The length that was asked for is not the length of the list.
        check.due("cross to 20", 4, bench.cross(0, 1, 0, 20));
        check.refusesArgument("crossed(5)", () -> bench.crossed(5));
        check.refusesArgument("click(5)", () -> bench.click(5));
    }

    private static void theClickIsCreditedToTheGiver() {
        check.sentence("Promise 19: Returns the system to which the click is credited");
        for (int first = 0; first < 4; first++) {
            for (int second = 0; second < 4; second++) {
                if (first != second) {
                    JudgedRuns bench = new JudgedRuns();
                    fill(bench, first, 3, 4, 5);
                    fill(bench, second, 3, 4, 6);
                    bench.cross(first, second, 3, 20);
                    list(bench, 4, 6, 5);
                    givers(bench, first, second, first);
                    check.due("credit of the first", 2, bench.credit(first));
                    check.due("credit of the second", 1, bench.credit(second));
                }
            }
        }
    }

    private static void aClickedOneIsRefused() {
        check.sentence("Promise 19: throws IllegalStateException if it was clicked");
        JudgedRuns bench = withRuns(row(1, 2), row(3, 4));
        bench.cross(0, 1, 0, 4);
        for (int rank : row(1, 4, 2)) {
            bench.click(rank);
            check.refusesState("click(" + rank + ") again", () -> bench.click(rank));
            check.refusesState("click(" + rank + ") once more", () -> bench.click(rank));
        }
        check.due("the one that was not", 0, bench.click(3));
        check.refusesState("click(3) again", () -> bench.click(3));
    }

    private static void aRefusedClickChangesNothing() {
        check.sentence("A call that throws changes nothing: click");
        Scene.refusesState(check, "click(2) again", bench -> bench.click(2));
        Scene.refusesState(check, "click(5) again", bench -> bench.click(5));
        Scene.refusesState(check, "click(6) again", bench -> bench.click(6));
        Scene.refusesArgument(check, "click(8)", bench -> bench.click(8));
        Scene.refusesArgument(check, "click(0)", bench -> bench.click(0));
    }

    private static void theArgumentGoesBeforeTheState() {
        check.sentence("if both apply, IllegalArgumentException is thrown: click");
        JudgedRuns bench = withRuns(row(1, 2), row(3, 4));
        bench.cross(0, 1, 0, 4);
        givers(bench, 0, 1, 0, 1);
        bench.cross(0, 1, 0, 2);
        givers(bench, 0, 1);
        check.refusesArgument("click(3), clicked in the list before", () -> bench.click(3));
        check.refusesArgument("click(0)", () -> bench.click(0));
        check.refusesState("click(2), clicked", () -> bench.click(2));
    }

    private static void clicksAreOfTheListThatStands() {
        check.sentence("if it was clicked: in this list, at this rank");
        JudgedRuns bench = withRuns(row(1, 2), row(2, 1));
        bench.cross(0, 1, 0, 2);
        givers(bench, 0);
        bench.cross(1, 0, 0, 2);
        list(bench, 2, 1);
        givers(bench, 1, 0);
    }

    private static void creditWithoutAList() {
        check.sentence("Promise 20: of no list, of a list without clicks");
        JudgedRuns bench = withRuns(row(1), row(2));
        check.due("credit before a list", 0, bench.credit(0));
        bench.cross(0, 1, 0, 2);
        for (int system = 0; system < 4; system++) {
            check.due("credit without clicks", 0, bench.credit(system));
        }
    }

    private static void creditOfAllClicks() {
        check.sentence("Promise 20: Returns how many clicks of the list are credited to a system");
        JudgedRuns bench = withRuns(row(1, 2, 3), row(3));
        bench.cross(1, 0, 0, 20);
        list(bench, 3, 1, 2);
        int[] due = {0, 1, 2};
        int[] order = {1, 3, 2};
        for (int place = 0; place < 3; place++) {
            bench.click(order[place]);
            check.due("credit of 0", due[place], bench.credit(0));
            check.due("credit of 1", 1, bench.credit(1));
        }
        check.refusesState("click(1) again", () -> bench.click(1));
        check.due("credit of 1 after a refused click", 1, bench.credit(1));
    }

    private static void creditOfSystemsThatAreNotCrossed() {
        check.sentence("Promise 20: 0 of a system that gave none");
        JudgedRuns bench = withRuns(row(1, 2), row());
        fill(bench, 2, 0, 1, 2);
        bench.cross(0, 1, 0, 20);
        givers(bench, 0, 0);
        int[] due = {2, 0, 0, 0};
        for (int system = 0; system < 4; system++) {
            check.due("credit of " + system, due[system], bench.credit(system));
        }
    }

    private static void theListStaysWhenItsRunsChange() {
        check.sentence("The document is credited to the system that gave it, whatever becomes of the run");
        JudgedRuns bench = withRuns(row(1, 2), row(3));
        bench.cross(0, 1, 0, 20);
        bench.click(1);
        bench.empty(0, 0);
        bench.empty(1, 0);
        fill(bench, 1, 0, 1, 2);
        list(bench, 1, 3, 2);
        check.due("credit of 0", 1, bench.credit(0));
        check.due("click(3)", 0, bench.click(3));
        check.due("credit of 1", 0, bench.credit(1));
    }

    /** System 0 gets as many hits for each question as are told, system 1 those below 0. */
    private static JudgedRuns withDifferences(int... differences) {
        JudgedRuns bench = new JudgedRuns();
        for (int question = 0; question < differences.length; question++) {
            for (int document = 0; document < Math.abs(differences[question]); document++) {
                bench.append(differences[question] > 0 ? 0 : 1, question, document, 5);
                bench.judge(question, document, JudgedRuns.RELEVANT);
            }
        }
        return bench;
    }

    private static void sumOfEmptyRuns() {
        check.sentence("of a run that is .. empty, all of its documents are looked at");
        JudgedRuns bench = new JudgedRuns();
        bench.judge(0, 1, JudgedRuns.RELEVANT);
        check.due("sum of empty runs", 0, bench.sum(0, 1, 20));
        check.due("test of empty runs", 256, bench.test(0, 1, 20));
        fill(bench, 0, 0, 1);
        check.due("sum, the second one is empty", 1, bench.sum(0, 1, 20));
        check.due("sum, the first one is empty", -1, bench.sum(1, 0, 20));
        bench.empty(0, 0);
        check.due("sum of what was emptied", 0, bench.sum(0, 1, 20));
    }

    private static void sumTakesTheFirstLessTheSecond() {
        check.sentence("the hits of the first one less those of the second one");
        JudgedRuns bench = withRuns(row(1, 2, 3), row(3));
        for (int document = 1; document <= 3; document++) {
            bench.judge(0, document, JudgedRuns.RELEVANT);
        }
        check.due("sum of 0 and 1", 2, bench.sum(0, 1, 20));
        check.due("sum of 1 and 0", -2, bench.sum(1, 0, 20));
    }

    private static void sumOfRunsAsTheyStand() {
        check.sentence("at a depth, each as the run stands (not as a mean)");
        JudgedRuns bench = withRuns(row(1, 2), row(2, 1));
        bench.judge(0, 2, JudgedRuns.RELEVANT);
        check.due("sum to 1, the relevant one tied", -1, bench.sum(0, 1, 1));
        check.due("sum to 2", 0, bench.sum(0, 1, 2));
    }

    private static void sumOfShorterRuns() {
        check.sentence("of a run that is shorter .. all of its documents are looked at");
        JudgedRuns bench = withRuns(row(1, 2), row(3, 4, 5, 6));
        for (int document : row(1, 2, 4, 5, 6)) {
            bench.judge(0, document, JudgedRuns.RELEVANT);
        }
        int[] due = {1, 1, 0, -1, -1};
        for (int depth = 1; depth <= 5; depth++) {
            check.due("sum to " + depth, due[depth - 1], bench.sum(0, 1, depth));
        }
        check.due("sum to 20", -1, bench.sum(0, 1, 20));
    }

    private static void sumOfAllQuestions() {
        check.sentence("The sum is that over all questions");
        for (int question = 0; question < 8; question++) {
            int[] differences = new int[8];
            differences[question] = -3;
            check.due("sum of " + question + " alone", -3, withDifferences(differences).sum(0, 1, 3));
        }
        check.due("sum of all", 36, withDifferences(1, 2, 3, 4, 5, 6, 7, 8).sum(0, 1, 20));
        check.due("sum of both signs", -4, withDifferences(1, -2, 3, -4, 5, -6, 7, -8).sum(0, 1, 20));
        check.due("sum to 2 of both signs", -1, withDifferences(1, -2, 3, -4, 5, -6, 7, -8).sum(0, 1, 2));
    }

    private static void sumFromTheLeastToTheGreatest() {
        check.sentence("The sum is that over all questions: full runs, all relevant");
        JudgedRuns bench = new JudgedRuns();
        for (int question = 0; question < 8; question++) {
            for (int document = 0; document < 20; document++) {
                bench.append(2, question, document, 5);
                bench.judge(question, document, JudgedRuns.RELEVANT);
            }
        }
        check.due("the greatest", 160, bench.sum(2, 0, 20));
        check.due("the least", -160, bench.sum(0, 2, 20));
        check.due("to 1", 8, bench.sum(2, 0, 1));
        check.due("test of the greatest", 2, bench.test(2, 0, 20));
        check.due("test of the least", 2, bench.test(0, 2, 20));
    }

    private static void sumOfASystemWithItself() {
        check.sentence("Promise 21: first: 0 to 3, second: 0 to 3, the same one too");
        JudgedRuns bench = withDifferences(1, 2);
        for (int system = 0; system < 4; system++) {
            check.due("sum", 0, bench.sum(system, system, 20));
        }
    }

    private static void testOfNoDifference() {
        check.sentence("Promise 22: 1 to 256: all of them where no question differs");
        check.due("test of a new object", 256, new JudgedRuns().test(0, 1, 1));
        JudgedRuns bench = withRuns(row(1, 2), row(2, 1));
        bench.judge(0, 1, JudgedRuns.RELEVANT);
        check.due("test of the same hits", 256, bench.test(0, 1, 2));
        check.due("test of other hits", 256, bench.test(0, 1, 1));
    }

    private static void testOfOneDifference() {
        check.sentence("with it, the sum is made anew with the differences .. taken with the other sign: of one");
        for (int question = 0; question < 8; question++) {
            int[] differences = new int[8];
            differences[question] = 20;
            check.due("test of " + question + " alone", 256, withDifferences(differences).test(0, 1, 20));
            differences[question == 0 ? 7 : 0] = 1;
            // The sum is 21 with both signs alike, and 19 with unlike ones.
            check.due("test with another one", 128, withDifferences(differences).test(0, 1, 20));
        }
    }

    private static void testCountsAtLeastTheSum() {
        check.sentence("for which the sum .. is at least the sum as it is: the same counts, one less does not");
        check.due("test of 1, 1 and 1", 64, withDifferences(1, 1, 1).test(0, 1, 20));
        check.due("test of 2, 1 and -1", 192, withDifferences(2, 1, -1).test(0, 1, 20));
        check.due("test of 3, -1 and -1", 256, withDifferences(3, -1, -1).test(0, 1, 20));
    }

    private static void testTakesSumsWithoutTheirSign() {
        check.sentence("the sum without its sign .. the sum as it is without its sign");
        check.due("test of -1 and -1", 128, withDifferences(-1, -1).test(0, 1, 20));
        check.due("test of -1 and -1, the other way", 128, withDifferences(-1, -1).test(1, 0, 20));
        check.due("test of -3, 2 and -1", 192, withDifferences(-3, 2, -1).test(0, 1, 20));
        check.due("test of 3, -2 and 1", 192, withDifferences(3, -2, 1).test(0, 1, 20));
    }

    private static void testOfASumOfNone() {
        check.sentence("is at least the sum as it is: a sum of 0 is reached by all");
        check.due("sum of 2, -1 and -1", 0, withDifferences(2, -1, -1).sum(0, 1, 20));
        check.due("test of 2, -1 and -1", 256, withDifferences(2, -1, -1).test(0, 1, 20));
        check.due("test of 1 and -1", 256, withDifferences(1, -1).test(0, 1, 20));
    }

    private static void testOfAllQuestions() {
        check.sentence("of all sets of the 8 questions: the empty one and the whole one count always");
        check.due("test of eight alike", 2, withDifferences(1, 1, 1, 1, 1, 1, 1, 1).test(0, 1, 1));
        check.due("test of eight apart", 2, withDifferences(1, 2, 3, 4, 5, 6, 7, 8).test(0, 1, 20));
        check.due("test of eight below 0", 2, withDifferences(-8, -7, -6, -5, -4, -3, -2, -1).test(0, 1, 20));
    }

    private static void testCountsAllSets() {
        check.sentence("The test counts the exchanges, of all sets of the 8 questions");
        // Of eight ones, those with all but at most so many signs alike.
        check.due("one of eight below 0", 18, withDifferences(1, 1, 1, -1, 1, 1, 1, 1).test(0, 1, 1));
        check.due("two of eight below 0", 74, withDifferences(1, 1, -1, 1, 1, 1, 1, -1).test(0, 1, 1));
        check.due("three of eight below 0", 186, withDifferences(-1, 1, -1, 1, 1, 1, 1, -1).test(0, 1, 1));
        check.due("four of eight below 0", 256, withDifferences(-1, 1, -1, 1, 1, 1, -1, -1).test(0, 1, 1));
        check.due("seven alike", 4, withDifferences(2, 2, 2, 2, 0, 2, 2, 2).test(0, 1, 2));
    }

    private static void testLooksToTheDepth() {
        check.sentence("the hits .. at a depth: of the test");
        JudgedRuns bench = withDifferences(5, 1, -1);
        check.due("test to 1, of 1, 1 and -1", 256, bench.test(0, 1, 1));
        check.due("test to 2, of 2, 1 and -1", 192, bench.test(0, 1, 2));
        check.due("test to 20, of 5, 1 and -1", 192, bench.test(0, 1, 20));
        JudgedRuns deep = withDifferences(3, 3, -1);
        check.due("test to 1, of 1, 1 and -1", 256, deep.test(0, 1, 1));
        check.due("test to 3, of 3, 3 and -1", 128, deep.test(0, 1, 3));
    }

    private static void testOfASystemWithItself() {
        check.sentence("Promise 22: first: 0 to 3, second: 0 to 3, the same one too");
        JudgedRuns bench = withDifferences(1, 2, -7);
        for (int system = 0; system < 4; system++) {
            check.due("test", 256, bench.test(system, system, 20));
        }
    }

    private static void theLastOfAllCallsAnswers() {
        check.sentence("An object is used for at most 512 calls: the last of them is answered as the first");
        JudgedRuns bench = withRuns(row(1, 2), row(3, 4));
        bench.judge(0, 1, JudgedRuns.RELEVANT);
        for (int round = 0; round < 168; round++) {
            check.due("cross", 4, bench.cross(round % 2, 1 - round % 2, 0, 20));
            check.due("click", round % 2, bench.click(3));
            check.due("credit", 1, bench.credit(round % 2));
        }
        check.due("call 510", 1, bench.sum(0, 1, 1));
        check.due("call 511", 256, bench.test(0, 1, 1));
        check.due("call 512", 2, bench.crossed(4));
    }
}
