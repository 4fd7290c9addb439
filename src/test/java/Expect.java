/** Collects the answers of one test: prints each that is not due, and ends with exit code 1 if there was one. */
final class Expect {
    private int asked;
    private int wrong;

    /** A new object in some state: made anew as often as it is wanted. */
    interface State {
        AutoTeller make();
    }

    /** One call; a boolean answers 1 or 0. */
    interface Call {
        long answer(AutoTeller x);
    }

    static long bit(boolean answer) {
        return answer ? 1 : 0;
    }

    void due(String call, long want, long got) {
        asked++;
        if (got != want) {
            wrong++;
            System.out.println(call + " answered " + got + ", due is " + want);
        }
    }

    void due(String call, boolean want, boolean got) {
        due(call, bit(want), bit(got));
    }

    /** Two looks at objects: prints the first line in which they differ. */
    void dueLook(String when, String want, String got) {
        asked++;
        if (got.equals(want)) {
            return;
        }
        wrong++;
        String[] wanted = want.split("\n");
        String[] seen = got.split("\n");
        int line = 0;
        while (line < wanted.length && line < seen.length && wanted[line].equals(seen[line])) {
            line++;
        }
        System.out.println(when + ": " + (line < seen.length ? seen[line] : "the end")
                + ", due is " + (line < wanted.length ? wanted[line] : "the end"));
    }

    void dueAnswer(String name, State state, Call call, long want) {
        due(name, want, call.answer(state.make()));
    }

    /** The answer is due, and the object is and goes on like one that was not called at all. */
    void dueNothingDone(String name, State state, Call call, long want) {
        AutoTeller called = state.make();
        AutoTeller twin = state.make();
        due(name, want, call.answer(called));
        dueLook(name + " changes nothing", Look.at(twin), Look.at(called));
        dueLook(name + " changes nothing that shows later", Look.later(twin), Look.later(called));
    }

    void end() {
        System.out.println(asked + " answers, " + wrong + " not as due");
        if (wrong != 0 || asked == 0) {
            System.exit(1);
        }
    }
}
