/**
 * The power goes at each step of each way through the machine: arm(n) before it begins, for every n, then what
 * was done (n steps and not one more), and what is done when the power comes.
 */
final class StepsTest {
    private static final Expect e = new Expect();
    private static final int NONE = AutoTeller.NONE;
    private static final int[] WORTHS = {7, 50, 200, 1000};
    private static final int[] NOTES = {3, 2, 4, 2};
    private static final int ALL_NOTES = 11;
    /** Worth of all notes, so that the mix is all of them. */
    private static final int AMOUNT = 2921;
    private static final int BALANCE = 5000;
    /** Record 1, DEBIT and record 2 come before the notes; after them the shutter and record 3. */
    private static final int BEFORE_NOTES = 3;
    private static final int SHUTTER = BEFORE_NOTES + ALL_NOTES + 1;
    private static final int ALL_STEPS = SHUTTER + 1;

    public static void main(String[] args) {
        pinCheck();
        for (int n = 0; n <= ALL_STEPS; n++) {
            paid(n);
        }
        for (int n = 0; n <= 3; n++) {
            refused(n);
        }
        for (int n = 0; n <= 6; n++) {
            reversed(n);
        }
        hundredSteps();
        whatIsNoStep();
        powerIsNotArmedWhenItComes();
        e.end();
    }

    private static AutoTeller open(int balance) {
        AutoTeller x = Setup.open();
        x.account(0, balance);
        for (int c = 0; c < 4; c++) {
            x.load(c, WORTHS[c], NOTES[c]);
        }
        return x;
    }

    private static void pinCheck() {
        for (int n = 0; n <= 1; n++) {
            AutoTeller x = Setup.inserted();
            x.arm(n);
            e.due("pin(1234), " + n + " steps", true, x.pin(1234));
            e.due("count(0), " + n + " steps", n, x.count(0));
            e.due("count(6), " + n + " steps", n, x.count(6));
            e.due("count(1), " + n + " steps", n == 0 ? NONE : 2, x.count(1));
            e.due("count(4), " + n + " steps: the trace is taken", 2, x.count(4));
            e.due("count(2), " + n + " steps: the card is in", 0, x.count(2));
        }
    }

    private static void paid(int n) {
        AutoTeller x = open(BALANCE);
        x.arm(n);
        String when = "paid, " + n + " steps";
        e.due(when + ": ask()", 1, x.ask(AMOUNT));
        Look.deliverAll(x);
        boolean all = n == ALL_STEPS;
        boolean opened = n >= SHUTTER;
        e.due(when + ": count(0)", all ? 1 : 0, x.count(0));
        e.due(when + ": count(1)", all ? 3 : NONE, x.count(1));
        e.due(when + ": count(2)", 0, x.count(2));
        e.due(when + ": count(3)", n == 0 ? 0 : n <= 2 ? 1 : all ? 3 : 2, x.count(3));
        e.due(when + ": count(4)", 3, x.count(4));
        e.due(when + ": count(5)", opened ? 1 : 0, x.count(5));
        e.due(when + ": count(6)", 0, x.count(6));
        e.due(when + ": count(9)", n >= 2 ? AMOUNT : 0, x.count(9));
        e.due(when + ": count(10)", opened ? AMOUNT : 0, x.count(10));
        dueNotes(when, x, n, 2);
        if (!all) {
            e.due(when + ": power()", true, x.power());
        }
        duePaidOrBack(when, x, n);
    }

    /** How many notes of a cassette left it, when they go one by one, by cassettes. */
    private static int gone(int cassette, int steps) {
        int left = Math.min(Math.max(steps - BEFORE_NOTES, 0), ALL_NOTES);
        for (int c = 0; c < cassette; c++) {
            left = Math.max(left - NOTES[c], 0);
        }
        return Math.min(left, NOTES[cassette]);
    }

    /** Those that left the cassettes are in the tray once the shutter opened, else where the last number says. */
    private static void dueNotes(String when, AutoTeller x, int steps, int place) {
        for (int c = 0; c < 4; c++) {
            e.due(when + ": cassette(" + c + ", 1)", NOTES[c] - gone(c, steps), x.cassette(c, 1));
            int where = steps >= SHUTTER ? 3 : place;
            for (int what = 2; what <= 4; what++) {
                int due = what == where ? gone(c, steps) : 0;
                e.due(when + ": cassette(" + c + ", " + what + ")", due, x.cassette(c, what));
            }
        }
    }

    private static void duePaidOrBack(String when, AutoTeller x, int n) {
        boolean opened = n >= SHUTTER;
        String then = when + ", power again";
        int last = (int) x.count(3) - 1;
        dueNotes(then, x, n, 4);
        e.due(then + ": count(5)", opened ? 1 : 0, x.count(5));
        if (n == 0) {
            e.due(then + ": count(1)", 0, x.count(1));
            e.due(then + ": count(3)", 0, x.count(3));
            e.due(then + ": count(6)", 0, x.count(6));
        } else if (opened) {
            e.due(then + ": count(1)", n == ALL_STEPS ? 3 : 0, x.count(1));
            e.due(then + ": count(3)", 3, x.count(3));
            dueRecord(then, x, last, 3);
            e.due(then + ": count(6)", 0, x.count(6));
        } else {
            e.due(then + ": count(1)", 5, x.count(1));
            e.due(then + ": count(3)", n <= 2 ? 2 : 3, x.count(3));
            dueRecord(then, x, last, 4);
            dueReversalLetter(then, x, 0);
        }
        Look.deliverAll(x);
        e.due(then + ": count(1) in the end", n == ALL_STEPS ? 3 : 0, x.count(1));
        e.due(then + ": balance(0) in the end", opened ? BALANCE - AMOUNT : BALANCE, x.balance(0));
        e.due(then + ": count(9) in the end", opened ? AMOUNT : 0, x.count(9));
        e.due(then + ": take() in the end", opened ? AMOUNT : 0, x.take());
        e.due(then + ": count(7) in the end", 0, x.count(7));
    }

    private static void dueRecord(String when, AutoTeller x, int k, int kind) {
        e.due(when + ": record(" + k + ", 0)", kind, x.record(k, 0));
        e.due(when + ": record(" + k + ", 1)", 2, x.record(k, 1));
        e.due(when + ": record(" + k + ", 2)", AMOUNT, x.record(k, 2));
        e.due(when + ": record(" + k + ", 3)", 0, x.record(k, 3));
        e.due(when + ": record(" + (k + 1) + ", 0)", NONE, x.record(k + 1, 0));
    }

    private static void dueReversalLetter(String when, AutoTeller x, int i) {
        int[] bytes = {3, 0, 0, 0, 2, 0, 0, 0, AMOUNT / 256, AMOUNT % 256, 0};
        for (int k = 0; k < bytes.length; k++) {
            e.due(when + ": letter(" + i + ", " + k + ")", bytes[k], x.letter(i, k));
        }
        e.due(when + ": letter(" + (i + 1) + ", 0)", NONE, x.letter(i + 1, 0));
    }

    /** Record 1, DEBIT, record 6. */
    private static void refused(int n) {
        AutoTeller x = open(AMOUNT - 1);
        x.arm(n);
        String when = "refused, " + n + " steps";
        e.due(when + ": ask()", 1, x.ask(AMOUNT));
        Look.deliverAll(x);
        e.due(when + ": count(0)", n == 3 ? 1 : 0, x.count(0));
        e.due(when + ": count(1)", n == 3 ? 3 : NONE, x.count(1));
        e.due(when + ": count(3)", n == 0 ? 0 : n == 3 ? 2 : 1, x.count(3));
        e.due(when + ": count(2)", 0, x.count(2));
        x.power();
        if (n == 3) {
            dueRecord(when, x, 1, 6);
        } else if (n == 0) {
            e.due(when + ", power again: count(1)", 0, x.count(1));
            e.due(when + ", power again: count(3)", 0, x.count(3));
        } else {
            e.due(when + ", power again: count(1)", 5, x.count(1));
            dueRecord(when + ", power again", x, 1, 4);
            dueReversalLetter(when + ", power again", x, 0);
        }
        Look.deliverAll(x);
        e.due(when + ": balance(0) in the end", AMOUNT - 1, x.balance(0));
        e.due(when + ": count(1) in the end", n == 3 ? 3 : 0, x.count(1));
    }

    /** Record 1, DEBIT (which is taken off, its answer lost), record 4, REVERSAL, REVERSAL once more, record 5. */
    private static void reversed(int n) {
        AutoTeller x = open(BALANCE);
        x.arm(n);
        String when = "reversed, " + n + " steps";
        x.ask(AMOUNT);
        x.deliver(0);
        x.lose(0);
        e.due(when + ": timeout() in phase 4", n >= 2, x.timeout());
        e.due(when + ": timeout() in phase 5", n >= 4, x.timeout());
        e.due(when + ": REVERSALs in flight", n >= 5 ? 2 : n == 4 ? 1 : 0, x.count(6));
        e.due(when + ": count(2)", n >= 4 ? NONE : 0, x.count(2));
        Look.deliverAll(x);
        boolean all = n == 6;
        e.due(when + ": count(0)", all ? 1 : 0, x.count(0));
        e.due(when + ": count(1)", all ? 0 : NONE, x.count(1));
        e.due(when + ": count(3)", n == 0 ? 0 : n <= 2 ? 1 : all ? 3 : 2, x.count(3));
        e.due(when + ": balance(0)", n < 2 || n >= 4 ? BALANCE : BALANCE - AMOUNT, x.balance(0));
        e.due(when + ": power()", !all, x.power());
        e.due(when + ", power again: count(1)", n == 0 || all ? 0 : 5, x.count(1));
        e.due(when + ", power again: count(2)", NONE, x.count(2));
        if (n > 0 && !all) {
            dueRecord(when + ", power again", x, 1, 4);
            dueReversalLetter(when + ", power again", x, 0);
        }
        Look.deliverAll(x);
        e.due(when + ": count(1) in the end", 0, x.count(1));
        e.due(when + ": balance(0) in the end", BALANCE, x.balance(0));
        e.due(when + ": count(9) in the end", 0, x.count(9));
        if (n > 0) {
            dueRecord(when + ", in the end", x, 2, 5);
        }
    }

    /** Two withdrawals of 40 notes are 90 steps; of a third the records 1 and 2, DEBIT and seven notes are done. */
    private static void hundredSteps() {
        AutoTeller x = Setup.open();
        x.load(3, 10, 200);
        for (int c = 0; c < 3; c++) {
            x.load(c, 10, 0);
        }
        e.due("arm(100)", true, x.arm(100));
        Setup.withdraw(x, 400);
        Setup.withdraw(x, 400);
        e.due("count(1) after 90 steps", 3, x.count(1));
        x.account(0, 1000);
        Setup.withdraw(x, 80);
        e.due("count(0) after 100 steps", 0, x.count(0));
        e.due("cassette(3, 2), seven of eight", 7, x.cassette(3, 2));
        e.due("cassette(3, 3)", 80, x.cassette(3, 3));
        e.due("count(3)", 8, x.count(3));

        x = Setup.open();
        x.load(3, 10, 200);
        x.load(2, 10, 0);
        x.load(1, 10, 0);
        x.load(0, 10, 0);
        x.arm(100);
        Setup.withdraw(x, 400);
        Setup.withdraw(x, 400);
        x.account(0, 1000);
        Setup.withdraw(x, 50);
        e.due("count(1) after a third of ten steps", 3, x.count(1));
        e.due("count(3)", 9, x.count(3));
        e.due("ask(10): the 101st step", 1, x.ask(10));
        e.due("count(0)", 0, x.count(0));
        e.due("count(3)", 9, x.count(3));
    }

    private static void whatIsNoStep() {
        AutoTeller x = Setup.answered(100);
        x.deliver(0);
        x.arm(0);
        x.take();
        x.account(0, 0);
        x.card(0, 0, 1);
        x.eject();
        x.load(0, 10, 1);
        x.insert(0);
        x.mix(10, 0);
        x.eject();
        x.arm(0);
        e.due("count(0): none of these is a step", 1, x.count(0));
        x = Setup.pinSent();
        x.arm(0);
        x.twice(0);
        x.poke(0, 0, 1);
        x.lose(0);
        x.deliver(0);
        e.due("count(1): letters of the host are no steps", 3, x.count(1));
        x = Setup.pinSent();
        x.arm(0);
        x.timeout();
        e.due("count(1): nor is the card that comes out", 0, x.count(1));
        x.insert(0);
        x.pin(1234);
        e.due("count(0): this is one", 0, x.count(0));
        keepingACardIsNoStep();
    }

    private static void keepingACardIsNoStep() {
        AutoTeller x = Setup.inserted();
        Setup.enterPin(x, 1);
        Setup.enterPin(x, 2);
        x.pin(3);
        x.deliver(0);
        x.arm(0);
        x.deliver(0);
        e.due("count(1), kept", 0, x.count(1));
        e.due("ofCard(0, 1)", 1, x.ofCard(0, 1));
    }

    /** All of record 4, the bin and the letter: what was armed is forgotten before them. */
    private static void powerIsNotArmedWhenItComes() {
        AutoTeller x = Setup.answered(180);
        x.arm(3);
        x.deliver(0);
        e.due("cassette(1, 2), in the stacker", 1, x.cassette(1, 2));
        x.power();
        e.due("count(1): record 4, the bin, REVERSAL are done", 5, x.count(1));
        e.due("cassette(1, 4)", 1, x.cassette(1, 4));
        x = Setup.asked(100);
        x.arm(0);
        x.cut();
        x.power();
        e.due("count(1): armed before cut()", 5, x.count(1));
        x.timeout();
        e.due("count(0)", 1, x.count(0));
    }
}
