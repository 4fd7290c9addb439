/** What is empty (letters, records, notes, mixes, balances) and what is full (the line, the journal, the mix). */
final class EmptyAndFullTest {
    private static final Expect e = new Expect();
    private static final int NONE = AutoTeller.NONE;

    public static void main(String[] args) {
        noLetter();
        noRecord();
        noNoteInTheTray();
        noNoteInTheStacker();
        noNoteInACassette();
        noMix();
        noBalance();
        lineFilledByPins();
        lineFilledByADebit();
        lineFilledByReversals();
        lineFilledByPower();
        lineFilledByAnswers();
        fullLineLosesNothingByDrops();
        fullLineLosesNothingByDeliver();
        fullLineAfterLose();
        lostLettersAreNotTaken();
        journalBeforeItsEdge();
        journalBeyondItsEdge();
        mostRecordsThatCallsReach();
        e.end();
    }

    private static void noLetter() {
        for (Expect.State state : new Expect.State[] {AutoTeller::new, Setup::open, EmptyAndFullTest::emptied}) {
            e.dueAnswer("count(6)", state, x -> x.count(6), 0);
            e.dueNothingDone("deliver(0), none in flight", state, x -> x.deliver(0), NONE);
            e.dueNothingDone("twice(0), none in flight", state, x -> x.twice(0), NONE);
            e.dueNothingDone("lose(0), none in flight", state, x -> x.lose(0), NONE);
            e.dueNothingDone("poke(0, 0, 1), none in flight", state, x -> Expect.bit(x.poke(0, 0, 1)), 0);
            e.dueNothingDone("letter(0, 0), none in flight", state, x -> x.letter(0, 0), NONE);
        }
    }

    /** The row of a letter that was there is not seen any more. */
    private static AutoTeller emptied() {
        AutoTeller x = Setup.asked(100);
        x.lose(0);
        return x;
    }

    private static void noRecord() {
        for (int what = 0; what < 4; what++) {
            int w = what;
            e.dueNothingDone("record(0, " + w + "), none", Setup::open, x -> x.record(0, w), NONE);
            e.dueNothingDone("record(-1, " + w + "), none", Setup::open, x -> x.record(-1, w), NONE);
        }
        AutoTeller x = Setup.open();
        x.cut();
        e.due("power() without a record", true, x.power());
        e.due("count(1) after power()", 0, x.count(1));
        e.due("count(3) after power()", 0, x.count(3));
        e.due("count(6) after power()", 0, x.count(6));
    }

    private static void noNoteInTheTray() {
        e.dueNothingDone("take() of a new object", AutoTeller::new, x -> x.take(), 0);
        AutoTeller x = Setup.open();
        Setup.withdraw(x, 80);
        e.due("take()", 80, x.take());
        String before = Look.at(x);
        e.due("take(), taken already", 0, x.take());
        e.dueLook("take() of an empty tray", before, Look.at(x));
    }

    /** Without notes in the stacker there is no step between record 4 and the letter. */
    private static void noNoteInTheStacker() {
        AutoTeller x = Setup.asked(100);
        x.arm(2);
        x.timeout();
        e.due("count(1): two steps were enough", 5, x.count(1));
        e.due("count(6): REVERSAL is sent", 2, x.count(6));
        for (int c = 0; c < 4; c++) {
            e.due("cassette(" + c + ", 4)", 0, x.cassette(c, 4));
        }
    }

    private static void noNoteInACassette() {
        AutoTeller x = Setup.open();
        x.load(3, 100, 2);
        Setup.withdraw(x, 200);
        e.due("cassette(3, 1), the last note is out", 0, x.cassette(3, 1));
        e.due("cassette(3, 3)", 2, x.cassette(3, 3));
        e.due("mix(100, 2), without cassette 3", 2, x.mix(100, 2));
        for (int c = 0; c < 3; c++) {
            x.load(c, 10, 0);
        }
        e.due("ask(10) when all are empty", 0, x.ask(10));
        x.load(0, 10, 1);
        e.due("ask(20) with one note of 10", 0, x.ask(20));
        e.due("ask(10) with one note of 10", 1, x.ask(10));
    }

    private static AutoTeller openWith(int notes) {
        AutoTeller x = Setup.open();
        x.load(0, 10, notes);
        x.load(1, 20, 0);
        x.load(2, 50, 0);
        x.load(3, 100, 0);
        return x;
    }

    private static void noMix() {
        e.dueNothingDone("mix(410, 0), 41 notes", () -> openWith(200), x -> x.mix(410, 0), NONE);
        e.dueNothingDone("ask(410), 41 notes", () -> openWith(200), x -> x.ask(410), 0);
        e.dueAnswer("mix(400, 0), 40 notes", () -> openWith(200), x -> x.mix(400, 0), 40);
        e.dueAnswer("ask(400), 40 notes", () -> openWith(200), x -> x.ask(400), 1);
        e.dueNothingDone("ask(400), 39 notes there", () -> openWith(39), x -> x.ask(400), 0);
        e.dueAnswer("ask(390), 39 notes there", () -> openWith(39), x -> x.ask(390), 1);
        e.dueNothingDone("ask(15), no such notes", () -> openWith(200), x -> x.ask(15), 0);
        for (int c = 0; c < 4; c++) {
            int cassette = c;
            e.dueAnswer("mix(10, " + c + ") without notes", () -> openWith(0), x -> x.mix(10, cassette), NONE);
        }
        AutoTeller x = openWith(200);
        Setup.withdraw(x, 400);
        e.due("take(), 40 notes", 400, x.take());
        e.due("cassette(0, 1)", 160, x.cassette(0, 1));
    }

    private static void noBalance() {
        for (int balance : new int[] {0, 99, 100, 101}) {
            AutoTeller x = Setup.open();
            x.account(0, balance);
            x.ask(100);
            x.deliver(0);
            boolean paid = balance >= 100;
            e.due("code of 100 off " + balance, paid ? 0 : 1, x.letter(0, 10));
            e.due("balance(0) of " + balance, paid ? balance - 100 : balance, x.balance(0));
            e.due("count(9) of " + balance, paid ? 100 : 0, x.count(9));
            x.deliver(0);
            e.due("count(1) of " + balance, 3, x.count(1));
            e.due("record(1, 0) of " + balance, paid ? 2 : 6, x.record(1, 0));
            e.due("take() of " + balance, paid ? 100 : 0, x.take());
        }
    }

    /** PIN checks that time out leave letters with traces 1, 2, 3 ... in flight; the host knows none of them. */
    private static AutoTeller withPins(int n) {
        AutoTeller x = Setup.ready();
        for (int k = 0; k < n; k++) {
            x.insert(0);
            x.pin(1234);
            x.timeout();
        }
        return x;
    }

    private static void dueLine(String when, AutoTeller x, int inFlight, int lost, int firstTrace, int lastKind) {
        e.due(when + ": count(6)", inFlight, x.count(6));
        e.due(when + ": count(8)", lost, x.count(8));
        e.due(when + ": trace of the oldest", firstTrace, x.letter(0, 4));
        e.due(when + ": kind of the newest", lastKind, x.letter(inFlight - 1, 0));
        e.due(when + ": letter(" + inFlight + ", 0)", NONE, x.letter(inFlight, 0));
    }

    private static void lineFilledByPins() {
        dueLine("23 PINs", withPins(23), 23, 0, 1, 1);
        dueLine("24 PINs", withPins(24), 24, 0, 1, 1);
        dueLine("25 PINs", withPins(25), 24, 1, 2, 1);
        dueLine("26 PINs", withPins(26), 24, 2, 3, 1);
        dueLine("100 PINs", withPins(100), 24, 76, 77, 1);
    }

    /** Phase 3, with 24 letters in flight of which the oldest is of trace 2. */
    private static AutoTeller openWithFullLine() {
        AutoTeller x = withPins(24);
        x.insert(0);
        x.pin(1234);
        x.deliver(23);
        x.deliver(23);
        x.twice(0);
        return x;
    }

    private static void lineFilledByADebit() {
        dueLine("open", openWithFullLine(), 24, 1, 2, 129);
        AutoTeller x = openWithFullLine();
        e.due("ask(100)", 1, x.ask(100));
        dueLine("after ask(100)", x, 24, 2, 3, 2);
        e.due("timeout()", true, x.timeout());
        dueLine("after timeout() in phase 4", x, 24, 3, 4, 3);
        e.due("timeout()", true, x.timeout());
        dueLine("after timeout() in phase 5", x, 24, 4, 5, 3);
    }

    private static void lineFilledByReversals() {
        AutoTeller x = Setup.asked(100);
        for (int n = 0; n < 23; n++) {
            x.timeout();
        }
        dueLine("DEBIT and 23 REVERSALs", x, 24, 0, 2, 3);
        e.due("the oldest is DEBIT", 2, x.letter(0, 0));
        x.timeout();
        dueLine("24 REVERSALs", x, 24, 1, 2, 3);
        e.due("the oldest is REVERSAL", 3, x.letter(0, 0));
    }

    private static void lineFilledByPower() {
        AutoTeller x = openWithFullLine();
        x.ask(100);
        x.cut();
        x.power();
        dueLine("after power()", x, 24, 3, 4, 3);
    }

    private static void lineFilledByAnswers() {
        AutoTeller x = withPins(24);
        e.due("twice(23)", 24, x.twice(23));
        dueLine("after twice(23)", x, 24, 1, 2, 129);
        e.due("the answer's trace", 24, x.letter(23, 4));
        e.due("the letter stays, one place on", 24, x.letter(22, 4));
        e.due("twice(0)", 24, x.twice(0));
        dueLine("after twice(0): it is itself the oldest", x, 24, 2, 3, 129);
        e.due("the answer's trace", 2, x.letter(23, 4));
        x = withPins(23);
        e.due("twice(0) with 23", 24, x.twice(0));
        dueLine("after twice(0) with 23", x, 24, 0, 1, 129);
    }

    private static void fullLineLosesNothingByDrops() {
        AutoTeller x = withPins(24);
        x.poke(0, 12, 1);
        e.due("twice(0), dropped by the host", 24, x.twice(0));
        dueLine("after a drop by the host", x, 24, 0, 1, 1);
        x.twice(5);
        e.due("twice(23), dropped by the machine", 24, x.twice(23));
        dueLine("after a drop by the machine", x, 24, 1, 2, 129);
        e.due("count(7)", 2, x.count(7));
        x.cut();
        e.due("twice(23), gone", 24, x.twice(23));
        dueLine("after one that is gone", x, 24, 1, 2, 129);
        e.due("count(7)", 2, x.count(7));
    }

    private static void fullLineLosesNothingByDeliver() {
        AutoTeller x = withPins(24);
        e.due("deliver(0)", 24, x.deliver(0));
        dueLine("after deliver(0)", x, 24, 0, 2, 129);
        e.due("the answer's trace", 1, x.letter(23, 4));
        e.due("deliver(23)", 23, x.deliver(23));
        dueLine("after deliver(23)", x, 23, 0, 2, 1);
        e.due("deliver(24)", NONE, x.deliver(24));
    }

    private static void fullLineAfterLose() {
        AutoTeller x = withPins(24);
        e.due("lose(24)", NONE, x.lose(24));
        e.due("lose(23)", 23, x.lose(23));
        x.insert(0);
        x.pin(1234);
        dueLine("after lose(23) and pin()", x, 24, 0, 1, 1);
        e.due("the newest trace", 25, x.letter(23, 4));
    }

    private static void lostLettersAreNotTaken() {
        AutoTeller x = Setup.asked(100);
        for (int n = 0; n < 24; n++) {
            x.timeout();
        }
        e.due("count(8): DEBIT is lost", 1, x.count(8));
        Look.deliverAll(x);
        e.due("balance(0): it was never taken off", 1000, x.balance(0));
        e.due("count(1)", 0, x.count(1));
        e.due("count(3): 1, 4, 5", 3, x.count(3));
        e.due("count(7): answers to the other REVERSALs", 23, x.count(7));
    }

    /** 96 withdrawals paid make 288 records, each one refused two. */
    private static AutoTeller withRecords(int paid, int refused) {
        AutoTeller x = Setup.open();
        x.load(0, 10, 200);
        x.account(0, 10L * paid);
        for (int n = 0; n < paid + refused; n++) {
            Setup.withdraw(x, 10);
        }
        x.account(0, 1000);
        return x;
    }

    private static void journalBeforeItsEdge() {
        AutoTeller x = withRecords(96, 1);
        e.due("count(3)", 290, x.count(3));
        e.due("record(289, 0)", 6, x.record(289, 0));
        e.due("record(290, 0)", NONE, x.record(290, 0));
        e.due("ask(5) with 290 records, no mix", 0, x.ask(5));
        e.due("ask(10) with 290 records", 1, x.ask(10));
        e.due("count(3)", 291, x.count(3));
        e.due("record(290, 0)", 1, x.record(290, 0));
    }

    private static void journalBeyondItsEdge() {
        AutoTeller x = withRecords(97, 0);
        e.due("count(3)", 291, x.count(3));
        e.due("ask(10) with 291 records", NONE, x.ask(10));
        e.due("ask(5) with 291 records, no mix", NONE, x.ask(5));
        e.due("count(1)", 3, x.count(1));
        e.due("count(3)", 291, x.count(3));
        e.due("count(4): no trace is taken", 99, x.count(4));
        e.due("count(6)", 0, x.count(6));
        e.due("eject()", true, x.eject());
        e.due("insert(0)", true, x.insert(0));
        e.due("pin(1234): that needs no record", true, x.pin(1234));
    }

    /** A withdrawal begun with 290 records writes 1, 2, 4, 5 at most: the journal cannot become full. */
    private static void mostRecordsThatCallsReach() {
        AutoTeller x = withRecords(96, 1);
        x.ask(10);
        x.deliver(0);
        x.arm(1);
        x.deliver(0);
        x.power();
        Look.deliverAll(x);
        e.due("count(3)", 294, x.count(3));
        int[] kinds = {1, 2, 4, 5};
        for (int k = 0; k < 4; k++) {
            e.due("record(" + (290 + k) + ", 0)", kinds[k], x.record(290 + k, 0));
            e.due("record(" + (290 + k) + ", 1)", 99, x.record(290 + k, 1));
        }
        e.due("record(294, 0)", NONE, x.record(294, 0));
        e.due("balance(0)", 1000, x.balance(0));
        e.due("count(1)", 0, x.count(1));
    }
}
