/** Promises 17 to 20: cross, crossed, click, credit. */
public final class CrossedListTest {
    private static final Check check = new Check();

    public static void main(String[] args) {
        systemsTakeTurns();
        secondSystemMayBeLower();
        aSystemThatHasNonePasses();
        theListEndsAtTheLength();
        theListEndsWhenBothHaveNone();
        fullRunsFillTheList();
        crossTakesThePlaceOfTheListBefore();
        refusedCrossesKeepTheList();
        theListOutlivesTheRuns();
        clicksAreCreditedToTheGiver();
        aSecondClickIsRefused();
        wrongArguments();
        check.end();
    }

    private static void fill(JudgedRuns bench, int system, int question, int... documents) {
        for (int document : documents) {
            bench.append(system, question, document, 5);
        }
    }

    private static void dueList(JudgedRuns bench, int... documents) {
        for (int rank = 1; rank <= documents.length; rank++) {
            check.due("crossed(" + rank + ")", documents[rank - 1], bench.crossed(rank));
        }
        check.refusesArgument("crossed behind the list", () -> bench.crossed(documents.length + 1));
        check.refusesArgument("click behind the list", () -> bench.click(documents.length + 1));
    }

    private static void dueGivers(JudgedRuns bench, int... givers) {
        for (int rank = 1; rank <= givers.length; rank++) {
            check.due("click(" + rank + ")", givers[rank - 1], bench.click(rank));
        }
    }

    private static void systemsTakeTurns() {
        JudgedRuns bench = new JudgedRuns();
        fill(bench, 0, 0, 5, 6, 7, 8);
        fill(bench, 1, 0, 8, 6, 20);
        check.due("cross", 5, bench.cross(0, 1, 0, 5));
        dueList(bench, 5, 8, 6, 20, 7);
        dueGivers(bench, 0, 1, 0, 1, 0);
    }

    private static void secondSystemMayBeLower() {
        JudgedRuns bench = new JudgedRuns();
        fill(bench, 0, 3, 5, 6, 7, 8);
        fill(bench, 2, 3, 8, 6, 20);
        fill(bench, 2, 4, 1);
        check.due("cross", 5, bench.cross(2, 0, 3, 20));
        dueList(bench, 8, 5, 6, 7, 20);
        dueGivers(bench, 2, 0, 2, 0, 2);
    }

    private static void aSystemThatHasNonePasses() {
        JudgedRuns bench = new JudgedRuns();
        fill(bench, 3, 7, 1, 2, 3);
        check.due("cross with an empty first run", 3, bench.cross(1, 3, 7, 20));
        dueList(bench, 1, 2, 3);
        dueGivers(bench, 3, 3, 3);
        fill(bench, 1, 7, 2, 1);
        check.due("cross of 1 and 3", 3, bench.cross(1, 3, 7, 20));
        dueList(bench, 2, 1, 3);
        dueGivers(bench, 1, 3, 3);
    }

    private static void theListEndsAtTheLength() {
        JudgedRuns bench = new JudgedRuns();
        fill(bench, 0, 0, 1, 2, 3, 4);
        fill(bench, 1, 0, 11, 12, 13, 14);
        check.due("cross to 1", 1, bench.cross(0, 1, 0, 1));
        dueList(bench, 1);
        check.due("cross to 2", 2, bench.cross(0, 1, 0, 2));
        dueList(bench, 1, 11);
        check.due("cross to 3", 3, bench.cross(0, 1, 0, 3));
        dueList(bench, 1, 11, 2);
    }

    private static void theListEndsWhenBothHaveNone() {
        JudgedRuns bench = new JudgedRuns();
        check.due("cross of empty runs", 0, bench.cross(0, 1, 0, 20));
        dueList(bench);
        fill(bench, 0, 0, 1, 2, 3);
        fill(bench, 1, 0, 3, 2, 1);
        check.due("cross of the same documents", 3, bench.cross(0, 1, 0, 20));
        dueList(bench, 1, 3, 2);
        dueGivers(bench, 0, 1, 0);
    }

    private static void fullRunsFillTheList() {
        JudgedRuns bench = new JudgedRuns();
        for (int place = 0; place < 20; place++) {
            bench.append(0, 0, place, 1000 - place);
            bench.append(1, 0, 39 - place, 1000 - place);
            bench.append(2, 0, 19 - place, 1000 - place);
        }
        check.due("cross of 0 and 1", 20, bench.cross(0, 1, 0, 20));
        for (int rank = 1; rank <= 20; rank++) {
            int turn = (rank - 1) / 2;
            check.due("crossed", rank % 2 == 1 ? turn : 39 - turn, bench.crossed(rank));
        }
        check.due("cross of 0 and 2", 20, bench.cross(0, 2, 0, 20));
        for (int rank = 1; rank <= 20; rank++) {
            int turn = (rank - 1) / 2;
            check.due("crossed", rank % 2 == 1 ? turn : 19 - turn, bench.crossed(rank));
        }
        check.due("click at 20", 2, bench.click(20));
        check.due("cross of 0 and an empty one", 20, bench.cross(0, 3, 0, 20));
        check.due("crossed(20)", 19, bench.crossed(20));
        check.due("click at 20", 0, bench.click(20));
    }

    private static void crossTakesThePlaceOfTheListBefore() {
        JudgedRuns bench = new JudgedRuns();
        fill(bench, 0, 0, 1, 2);
        fill(bench, 1, 0, 3, 4);
        bench.cross(0, 1, 0, 4);
        dueGivers(bench, 0, 1, 0, 1);
        check.due("credit of 0", 2, bench.credit(0));
        bench.cross(1, 0, 0, 3);
        dueList(bench, 3, 1, 4);
        check.due("credit of 0 anew", 0, bench.credit(0));
        check.due("credit of 1 anew", 0, bench.credit(1));
        dueGivers(bench, 1, 0, 1);
        bench.cross(0, 1, 5, 4);
        dueList(bench);
        check.due("credit of 1 without a list", 0, bench.credit(1));
    }

    private static void refusedCrossesKeepTheList() {
        JudgedRuns bench = new JudgedRuns();
        fill(bench, 0, 0, 1, 2);
        fill(bench, 1, 0, 3);
        bench.cross(0, 1, 0, 20);
        bench.click(2);
        check.refusesArgument("the same system", () -> bench.cross(1, 1, 0, 1));
        check.refusesArgument("no such length", () -> bench.cross(1, 0, 0, 0));
        check.refusesArgument("no such question", () -> bench.cross(1, 0, 8, 1));
        dueList(bench, 1, 3, 2);
        check.due("credit of 1", 1, bench.credit(1));
        check.refusesState("a click again", () -> bench.click(2));
        check.due("credit of 1 still", 1, bench.credit(1));
    }

    private static void theListOutlivesTheRuns() {
        JudgedRuns bench = new JudgedRuns();
        fill(bench, 2, 5, 30, 31);
        bench.cross(2, 3, 5, 2);
        bench.empty(2, 5);
        fill(bench, 2, 5, 7, 8, 9);
        dueList(bench, 30, 31);
        check.due("click", 2, bench.click(1));
        check.due("credit", 1, bench.credit(2));
        bench.empty(2, 5);
        check.due("credit after empty", 1, bench.credit(2));
    }

    private static void clicksAreCreditedToTheGiver() {
        JudgedRuns bench = new JudgedRuns();
        fill(bench, 3, 1, 0, 1, 2);
        fill(bench, 1, 1, 0, 3, 39);
        bench.cross(3, 1, 1, 20);
        dueList(bench, 0, 3, 1, 39, 2);
        int[] credits = {0, 0, 0, 0};
        int[] order = {5, 2, 1, 4, 3};
        int[] givers = {3, 1, 3, 1, 3};
        for (int rank : order) {
            check.due("click(" + rank + ")", givers[rank - 1], bench.click(rank));
            credits[givers[rank - 1]]++;
            for (int system = 0; system < 4; system++) {
                check.due("credit of " + system, credits[system], bench.credit(system));
            }
        }
    }

    private static void aSecondClickIsRefused() {
        JudgedRuns bench = new JudgedRuns();
        fill(bench, 0, 0, 1);
        fill(bench, 1, 0, 2);
        bench.cross(0, 1, 0, 2);
        bench.click(1);
        check.refusesState("click(1) again", () -> bench.click(1));
        check.refusesState("click(1) once more", () -> bench.click(1));
        check.due("credit of 0", 1, bench.credit(0));
        check.due("click(2)", 1, bench.click(2));
        check.refusesArgument("click(3)", () -> bench.click(3));
        bench.cross(0, 1, 0, 2);
        check.due("click(1) of the new list", 0, bench.click(1));
    }

    private static void wrongArguments() {
        JudgedRuns bench = new JudgedRuns();
        fill(bench, 0, 0, 1, 2, 3);
        bench.cross(0, 1, 0, 20);
        for (int wrong : Check.outside(0, 3)) {
            check.refusesArgument("cross, first " + wrong, () -> bench.cross(wrong, 1, 0, 1));
            check.refusesArgument("cross, second " + wrong, () -> bench.cross(0, wrong, 0, 1));
            check.refusesArgument("cross, both " + wrong, () -> bench.cross(wrong, wrong, 0, 1));
            check.refusesArgument("credit, system " + wrong, () -> bench.credit(wrong));
        }
        for (int wrong : Check.outside(0, 7)) {
            check.refusesArgument("cross, question " + wrong, () -> bench.cross(0, 1, wrong, 1));
        }
        for (int wrong : Check.outside(1, 20)) {
            check.refusesArgument("cross, length " + wrong, () -> bench.cross(0, 1, 0, wrong));
        }
        for (int system = 0; system < 4; system++) {
            int same = system;
            check.refusesArgument("cross of " + system + " with itself", () -> bench.cross(same, same, 0, 1));
        }
        for (int wrong : Check.outside(1, 3)) {
            check.refusesArgument("crossed, rank " + wrong, () -> bench.crossed(wrong));
            check.refusesArgument("click, rank " + wrong, () -> bench.click(wrong));
        }
        dueList(bench, 1, 2, 3);
    }
}
