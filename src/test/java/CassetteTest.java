/** Promises 4, 9 and 19: load, take, cassette. */
final class CassetteTest {
    private static final Expect e = new Expect();

    public static void main(String[] args) {
        loadSetsNotes();
        loadRefuses();
        loadByPhase();
        cassetteOfWhat();
        notesKeepTheirWorth();
        trayGathers();
        notesInTheBinAreNotPaid();
        e.end();
    }

    private static void loadSetsNotes() {
        AutoTeller x = new AutoTeller();
        e.due("load(0, 1, 0)", true, x.load(0, 1, 0));
        e.due("load(3, 1000, 200)", true, x.load(3, 1000, 200));
        e.due("cassette(0, 0)", 1, x.cassette(0, 0));
        e.due("cassette(0, 1)", 0, x.cassette(0, 1));
        e.due("cassette(3, 0)", 1000, x.cassette(3, 0));
        e.due("cassette(3, 1)", 200, x.cassette(3, 1));
        e.due("load(3, 5, 7)", true, x.load(3, 5, 7));
        e.due("cassette(3, 0)", 5, x.cassette(3, 0));
        e.due("cassette(3, 1): set, not added", 7, x.cassette(3, 1));
    }

    private static void loadRefuses() {
        AutoTeller x = Setup.ready();
        int[][] bad = {
            {-1, 10, 1}, {4, 10, 1}, {Integer.MAX_VALUE, 10, 1}, {Integer.MIN_VALUE, 10, 1},
            {0, 0, 1}, {0, 1001, 1}, {0, -1, 1}, {0, Integer.MAX_VALUE, 1},
            {0, 5, -1}, {0, 5, 201}, {0, 5, Integer.MIN_VALUE}, {0, 5, Integer.MAX_VALUE},
        };
        for (int[] b : bad) {
            e.due("load(" + b[0] + ", " + b[1] + ", " + b[2] + ")", false, x.load(b[0], b[1], b[2]));
        }
        e.due("cassette(0, 0)", 10, x.cassette(0, 0));
        e.due("cassette(0, 1)", 10, x.cassette(0, 1));
    }

    private static void loadByPhase() {
        AutoTeller x = Setup.inserted();
        e.due("load in phase 1", true, x.load(0, 10, 11));
        x.pin(1234);
        e.due("load in phase 2", true, x.load(0, 10, 12));
        x.deliver(0);
        x.deliver(0);
        e.due("load in phase 3", true, x.load(0, 10, 13));
        x.ask(10);
        e.due("load in phase 4", false, x.load(0, 20, 14));
        e.due("cassette(0, 0)", 10, x.cassette(0, 0));
        e.due("cassette(0, 1)", 13, x.cassette(0, 1));
        x.timeout();
        e.due("load in phase 5", true, x.load(0, 10, 15));
        x.cut();
        e.due("load while off", false, x.load(0, 20, 16));
        e.due("cassette(0, 0)", 10, x.cassette(0, 0));
        e.due("cassette(0, 1)", 15, x.cassette(0, 1));
    }

    private static void cassetteOfWhat() {
        AutoTeller x = Setup.ready();
        for (int bad : new int[] {-1, 4, Integer.MAX_VALUE, Integer.MIN_VALUE}) {
            e.due("cassette(" + bad + ", 0)", -1, x.cassette(bad, 0));
        }
        for (int bad : new int[] {-1, 5, Integer.MAX_VALUE, Integer.MIN_VALUE}) {
            e.due("cassette(0, " + bad + ")", -1, x.cassette(0, bad));
        }
        x = Setup.answered(180);
        x.arm(3);
        x.deliver(0);
        e.due("cassette(0, 1)", 9, x.cassette(0, 1));
        e.due("cassette(0, 2)", 1, x.cassette(0, 2));
        e.due("cassette(1, 2)", 1, x.cassette(1, 2));
        e.due("cassette(2, 2)", 0, x.cassette(2, 2));
        x.power();
        e.due("cassette(0, 1) after power", 9, x.cassette(0, 1));
        e.due("cassette(0, 2) after power", 0, x.cassette(0, 2));
        e.due("cassette(0, 3) after power", 0, x.cassette(0, 3));
        e.due("cassette(0, 4) after power", 1, x.cassette(0, 4));
        e.due("cassette(1, 4) after power", 1, x.cassette(1, 4));
        e.due("cassette(2, 4) after power", 0, x.cassette(2, 4));
        x = Setup.answered(180);
        x.deliver(0);
        for (int c = 0; c < 4; c++) {
            e.due("cassette(" + c + ", 1) when paid", 9, x.cassette(c, 1));
            e.due("cassette(" + c + ", 2) when paid", 0, x.cassette(c, 2));
            e.due("cassette(" + c + ", 3) when paid", 1, x.cassette(c, 3));
            e.due("cassette(" + c + ", 4) when paid", 0, x.cassette(c, 4));
        }
        e.due("take()", 180, x.take());
        for (int c = 0; c < 4; c++) {
            e.due("cassette(" + c + ", 3) when taken", 0, x.cassette(c, 3));
        }
        e.due("take() again", 0, x.take());
    }

    private static void notesKeepTheirWorth() {
        AutoTeller x = Setup.answered(30);
        x.deliver(0);
        e.due("load(0, 1000, 5)", true, x.load(0, 1000, 5));
        e.due("load(1, 7, 5)", true, x.load(1, 7, 5));
        e.due("cassette(0, 3)", 1, x.cassette(0, 3));
        e.due("count(10)", 30, x.count(10));
        Setup.withdraw(x, 7);
        e.due("cassette(1, 3)", 2, x.cassette(1, 3));
        e.due("count(10)", 37, x.count(10));
        x.cut();
        e.due("take() while off", 37, x.take());
        e.due("count(10)", 37, x.count(10));
    }

    private static void trayGathers() {
        AutoTeller x = Setup.open();
        Setup.withdraw(x, 100);
        Setup.withdraw(x, 200);
        e.due("cassette(3, 3)", 3, x.cassette(3, 3));
        e.due("take()", 300, x.take());
        Setup.withdraw(x, 100);
        e.due("cassette(3, 3)", 1, x.cassette(3, 3));
        e.due("take()", 100, x.take());
        e.due("count(10)", 400, x.count(10));
        e.due("count(5)", 3, x.count(5));
    }

    /** What was in the stacker when the power went is worth nothing to the next customer. */
    private static void notesInTheBinAreNotPaid() {
        AutoTeller x = Setup.answered(180);
        x.arm(4);
        x.deliver(0);
        x.power();
        Look.deliverAll(x);
        for (int c = 0; c < 3; c++) {
            e.due("cassette(" + c + ", 4)", 1, x.cassette(c, 4));
        }
        x.insert(0);
        Setup.enterPin(x, 1234);
        Setup.withdraw(x, 50);
        e.due("count(10)", 50, x.count(10));
        e.due("take()", 50, x.take());
        e.due("balance(0)", 950, x.balance(0));
        e.due("cassette(2, 4): the bin is not emptied", 1, x.cassette(2, 4));
    }
}
