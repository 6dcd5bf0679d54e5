/** Counts the answers that are not due and ends the test program with exit code 1 if there were any. */
final class Check {
    interface Call {
        long answer();
    }

    /** Numbers outside the range low to high, next to it and far from it. */
    static int[] outside(int low, int high) {
        return new int[] {low - 1, high + 1, Integer.MIN_VALUE, Integer.MAX_VALUE};
    }

    private int checks = 0;
    private int wrong = 0;
    private String sentence = "";

    /** The checks that follow look at this sentence of the document; it heads what they report. */
    void sentence(String told) {
        sentence = "[" + told + "] ";
    }

    void due(String what, long want, long got) {
        checks++;
        if (got != want) {
            report(what + " answered " + got + ", due is " + want);
        }
    }

    void due(String what, long wantNumerator, long wantDenominator, long numerator, long denominator) {
        checks++;
        if (numerator != wantNumerator || denominator != wantDenominator) {
            report(what + " answered " + numerator + "/" + denominator
                    + ", due is " + wantNumerator + "/" + wantDenominator);
        }
    }

    void holds(String what, boolean isSo) {
        checks++;
        if (!isSo) {
            report(what);
        }
    }

    void refusesArgument(String what, Call call) {
        refuses(what, IllegalArgumentException.class, call);
    }

    void refusesState(String what, Call call) {
        refuses(what, IllegalStateException.class, call);
    }

    private void refuses(String what, Class<? extends RuntimeException> want, Call call) {
        checks++;
        try {
            report(what + " answered " + call.answer() + ", due is " + want.getSimpleName());
        } catch (RuntimeException got) {
            if (got.getClass() != want) {
                report(what + " threw " + got + ", due is " + want.getSimpleName());
            }
        }
    }

    private void report(String text) {
        wrong++;
        if (wrong <= 20) {
            System.out.println(sentence + text);
        }
    }

    void end() {
        System.out.println(checks + " checks, " + wrong + " wrong");
        if (checks == 0 || wrong != 0) {
            System.exit(1);
        }
    }
}
