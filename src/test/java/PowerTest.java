/** Promises 16 to 18: cut, arm, power; and every step at which the power may go. */
final class PowerTest {
    private static final Expect e = new Expect();

    public static void main(String[] args) {
        cutAndPower();
        armRefuses();
        armIsReplacedAndForgotten();
        lettersAreGoneWhileOff();
        cutInEachPhase();
        powerGoesInAsk();
        powerGoesWhilePaying();
        powerGoesInRefusal();
        powerGoesInTimeout();
        powerGoesInPhaseFive();
        openingsOfEarlierWithdrawals();
        lastBegunOfSeveral();
        e.end();
    }

    private static void cutAndPower() {
        AutoTeller x = Setup.inserted();
        e.due("power() while on", false, x.power());
        e.due("count(2)", 0, x.count(2));
        e.due("cut()", true, x.cut());
        e.due("cut() while off", false, x.cut());
        e.due("count(0)", 0, x.count(0));
        e.due("count(1)", -1, x.count(1));
        e.due("count(2)", 0, x.count(2));
        e.due("cassette(0, 1) while off", 10, x.cassette(0, 1));
        e.due("mix(30, 1) while off", 1, x.mix(30, 1));
        e.due("power()", true, x.power());
        e.due("count(0)", 1, x.count(0));
        e.due("count(1)", 0, x.count(1));
        e.due("count(2)", -1, x.count(2));
    }

    private static void armRefuses() {
        AutoTeller x = Setup.inserted();
        for (int bad : new int[] {-1, 101, Integer.MAX_VALUE, Integer.MIN_VALUE}) {
            e.due("arm(" + bad + ")", false, x.arm(bad));
        }
        e.due("pin(1234)", true, x.pin(1234));
        e.due("count(0): a refused arm does nothing", 1, x.count(0));
        e.due("arm(100)", true, x.arm(100));
        e.due("arm(0)", true, x.arm(0));
        e.due("count(0): no step yet", 1, x.count(0));
        e.due("deliver(0): the host's answer is no step", 1, x.deliver(0));
        e.due("deliver(0): nor is taking it", 0, x.deliver(0));
        e.due("count(1)", 3, x.count(1));
        e.due("eject(): nor is that", true, x.eject());
        e.due("load(0, 10, 5): nor that", true, x.load(0, 10, 5));
        e.due("count(0)", 1, x.count(0));
        x.cut();
        e.due("arm(5) while off", false, x.arm(5));
    }

    private static void armIsReplacedAndForgotten() {
        AutoTeller x = Setup.inserted();
        x.arm(0);
        x.arm(1);
        x.pin(1234);
        e.due("count(0): the later arm counts", 1, x.count(0));
        x.timeout();
        x.insert(0);
        x.arm(-1);
        x.pin(1234);
        e.due("count(0): a refused arm leaves the earlier one", 0, x.count(0));
        x.power();
        x.insert(0);
        x.pin(1234);
        e.due("count(0): not armed any more", 1, x.count(0));
        x.arm(0);
        x.cut();
        x.power();
        x.insert(0);
        x.pin(1234);
        e.due("count(0): nor after cut()", 1, x.count(0));
    }

    private static void lettersAreGoneWhileOff() {
        AutoTeller x = Setup.asked(100);
        x.cut();
        e.due("deliver(0): the host is on", 1, x.deliver(0));
        e.due("balance(0)", 900, x.balance(0));
        e.due("deliver(0): gone", 0, x.deliver(0));
        e.due("count(7)", 0, x.count(7));
        e.due("count(8)", 0, x.count(8));
        x = Setup.answered(100);
        x.cut();
        x.poke(0, 3, 1);
        e.due("deliver(0), with a wrong check: gone", 0, x.deliver(0));
        e.due("count(7)", 0, x.count(7));
    }

    private static void cutInEachPhase() {
        AutoTeller[] idle = {Setup.ready(), Setup.inserted(), Setup.pinSent(), Setup.open()};
        for (AutoTeller x : idle) {
            long phase = x.count(1);
            long sent = x.count(6);
            x.cut();
            x.power();
            e.due("count(1) after phase " + phase, 0, x.count(1));
            e.due("count(2) after phase " + phase, -1, x.count(2));
            e.due("count(3) after phase " + phase, 0, x.count(3));
            e.due("count(6) after phase " + phase, sent, x.count(6));
        }
        AutoTeller x = Setup.asked(100);
        x.cut();
        e.due("count(2) while off", 0, x.count(2));
        x.power();
        dueReversing("after phase 4", x, 2, 2);
        x = Setup.open();
        Setup.withdraw(x, 100);
        x.cut();
        x.power();
        e.due("count(1) after record 3", 0, x.count(1));
        e.due("count(3) after record 3", 3, x.count(3));
        x = Setup.open();
        x.account(0, 0);
        Setup.withdraw(x, 100);
        x.cut();
        x.power();
        e.due("count(1) after record 6", 0, x.count(1));
        e.due("count(3) after record 6", 2, x.count(3));
        x = Setup.reversing(100);
        x.deliver(0);
        x.deliver(0);
        x.cut();
        x.power();
        e.due("count(1) after record 5", 0, x.count(1));
        e.due("count(3) after record 5", 3, x.count(3));
        e.due("count(6) after record 5", 0, x.count(6));
    }

    private static void dueReversing(String when, AutoTeller x, int records, int letters) {
        e.due(when + ": count(1)", 5, x.count(1));
        e.due(when + ": count(2)", -1, x.count(2));
        e.due(when + ": count(3)", records, x.count(3));
        e.due(when + ": the last record", 4, x.record(records - 1, 0));
        e.due(when + ": its trace", 2, x.record(records - 1, 1));
        e.due(when + ": count(6)", letters, x.count(6));
        e.due(when + ": the last letter", 3, x.letter(letters - 1, 0));
        e.due(when + ": its trace", 2, x.letter(letters - 1, 4));
    }

    private static void powerGoesInAsk() {
        AutoTeller x = Setup.open();
        x.arm(0);
        e.due("ask(100), the record is not written", 1, x.ask(100));
        e.due("count(0)", 0, x.count(0));
        e.due("count(3)", 0, x.count(3));
        e.due("count(4)", 3, x.count(4));
        e.due("count(6)", 0, x.count(6));
        x.power();
        e.due("count(1)", 0, x.count(1));
        e.due("count(3)", 0, x.count(3));
        e.due("count(6)", 0, x.count(6));

        x = Setup.open();
        x.arm(1);
        e.due("ask(100), DEBIT is not sent", 1, x.ask(100));
        e.due("count(0)", 0, x.count(0));
        e.due("count(3)", 1, x.count(3));
        e.due("count(6)", 0, x.count(6));
        e.due("count(2)", 0, x.count(2));
        x.power();
        dueReversing("DEBIT not sent", x, 2, 1);
        Look.deliverAll(x);
        e.due("count(1)", 0, x.count(1));
        e.due("record(2, 0)", 5, x.record(2, 0));

        x = Setup.open();
        x.arm(2);
        e.due("ask(100), all steps done", 1, x.ask(100));
        e.due("count(1): still on", 4, x.count(1));
        x.deliver(0);
        x.deliver(0);
        e.due("count(0): the next step is not done", 0, x.count(0));
        e.due("count(3)", 1, x.count(3));
    }

    /** Record 2, four notes, the shutter, record 3: seven steps. */
    private static void powerGoesWhilePaying() {
        for (int n = 0; n <= 7; n++) {
            AutoTeller x = Setup.answered(180);
            x.arm(n);
            e.due("deliver(0) with " + n + " steps", 0, x.deliver(0));
            String when = "after " + n + " steps";
            e.due(when + ": count(0)", n == 7 ? 1 : 0, x.count(0));
            e.due(when + ": count(1)", n == 7 ? 3 : -1, x.count(1));
            e.due(when + ": count(2)", 0, x.count(2));
            e.due(when + ": count(3)", n == 0 ? 1 : n == 7 ? 3 : 2, x.count(3));
            e.due(when + ": count(5)", n >= 6 ? 1 : 0, x.count(5));
            e.due(when + ": count(10)", n >= 6 ? 180 : 0, x.count(10));
            for (int c = 0; c < 4; c++) {
                boolean out = n >= c + 2;
                e.due(when + ": cassette(" + c + ", 1)", out ? 9 : 10, x.cassette(c, 1));
                e.due(when + ": cassette(" + c + ", 2)", out && n < 6 ? 1 : 0, x.cassette(c, 2));
                e.due(when + ": cassette(" + c + ", 3)", n >= 6 ? 1 : 0, x.cassette(c, 3));
            }
            if (n < 7) {
                x.power();
                duePowerBack(x, n);
            }
            e.due(when + ": take()", n >= 6 ? 180 : 0, x.take());
            e.due(when + ": balance(0)", n >= 6 ? 820 : 1000, x.balance(0));
            e.due(when + ": count(9)", n >= 6 ? 180 : 0, x.count(9));
        }
    }

    private static void duePowerBack(AutoTeller x, int n) {
        String when = "power after " + n + " steps";
        if (n == 6) {
            e.due(when + ": count(1)", 0, x.count(1));
            e.due(when + ": count(2)", -1, x.count(2));
            e.due(when + ": count(3)", 3, x.count(3));
            e.due(when + ": record(2, 0)", 3, x.record(2, 0));
            e.due(when + ": record(2, 1)", 2, x.record(2, 1));
            e.due(when + ": record(2, 2)", 180, x.record(2, 2));
            e.due(when + ": count(6)", 0, x.count(6));
            return;
        }
        dueReversing(when, x, n == 0 ? 2 : 3, 1);
        for (int c = 0; c < 4; c++) {
            e.due(when + ": cassette(" + c + ", 2)", 0, x.cassette(c, 2));
            e.due(when + ": cassette(" + c + ", 4)", n >= c + 2 ? 1 : 0, x.cassette(c, 4));
        }
        Look.deliverAll(x);
        e.due(when + ": count(1) in the end", 0, x.count(1));
        e.due(when + ": the last record", 5, x.record((int) x.count(3) - 1, 0));
    }

    private static void powerGoesInRefusal() {
        AutoTeller x = Setup.open();
        x.account(0, 0);
        x.ask(100);
        x.deliver(0);
        x.arm(0);
        x.deliver(0);
        e.due("count(0), record 6 is not written", 0, x.count(0));
        e.due("count(3)", 1, x.count(3));
        x.power();
        dueReversing("refusal not written", x, 2, 1);
        Look.deliverAll(x);
        e.due("balance(0)", 0, x.balance(0));
    }

    private static void powerGoesInTimeout() {
        AutoTeller x = Setup.answered(100);
        x.arm(0);
        e.due("timeout(), record 4 is not written", true, x.timeout());
        e.due("count(0)", 0, x.count(0));
        e.due("count(2)", 0, x.count(2));
        e.due("count(3)", 1, x.count(3));
        e.due("count(6)", 1, x.count(6));
        x.power();
        dueReversing("record 4 not written", x, 2, 2);

        x = Setup.answered(100);
        x.arm(1);
        e.due("timeout(), REVERSAL is not sent", true, x.timeout());
        e.due("count(0)", 0, x.count(0));
        e.due("count(2): the card is in the slot yet", 0, x.count(2));
        e.due("count(3)", 2, x.count(3));
        e.due("count(6)", 1, x.count(6));
        x.power();
        dueReversing("REVERSAL not sent: no second record 4", x, 2, 2);

        x = Setup.answered(100);
        x.arm(2);
        e.due("timeout(), all steps done", true, x.timeout());
        e.due("count(1)", 5, x.count(1));
        e.due("timeout(), not sent once more", true, x.timeout());
        e.due("count(0)", 0, x.count(0));
        e.due("count(6)", 2, x.count(6));
    }

    private static void powerGoesInPhaseFive() {
        AutoTeller x = Setup.reversing(100);
        x.cut();
        x.power();
        dueReversing("cut in phase 5", x, 2, 2);
        x.deliver(0);
        x.arm(0);
        x.deliver(1);
        e.due("count(0), record 5 is not written", 0, x.count(0));
        e.due("count(3)", 2, x.count(3));
        x.power();
        dueReversing("record 5 not written", x, 2, 2);
        Look.deliverAll(x);
        e.due("count(1)", 0, x.count(1));
        e.due("count(3)", 3, x.count(3));
        e.due("balance(0)", 1000, x.balance(0));
    }

    private static void openingsOfEarlierWithdrawals() {
        AutoTeller x = Setup.open();
        Setup.withdraw(x, 100);
        x.ask(50);
        x.deliver(0);
        x.arm(2);
        x.deliver(0);
        e.due("count(0)", 0, x.count(0));
        e.due("cassette(2, 2)", 1, x.cassette(2, 2));
        x.power();
        e.due("count(1): the shutter opened before record 1", 5, x.count(1));
        e.due("cassette(2, 4)", 1, x.cassette(2, 4));
        e.due("record(5, 0)", 4, x.record(5, 0));
        e.due("record(5, 1)", 3, x.record(5, 1));
        e.due("record(5, 2)", 50, x.record(5, 2));
    }

    private static void lastBegunOfSeveral() {
        AutoTeller x = Setup.open();
        Setup.withdraw(x, 100);
        x.eject();
        x.card(2, 1, 5);
        x.account(1, 500);
        x.insert(2);
        Setup.enterPin(x, 5);
        x.ask(60);
        x.cut();
        x.power();
        e.due("record(4, 0)", 4, x.record(4, 0));
        e.due("record(4, 1)", 4, x.record(4, 1));
        e.due("record(4, 2)", 60, x.record(4, 2));
        e.due("record(4, 3)", 2, x.record(4, 3));
        e.due("letter(1, 4)", 4, x.letter(1, 4));
        e.due("letter(1, 5)", 2, x.letter(1, 5));
        e.due("letter(1, 9)", 60, x.letter(1, 9));
        Look.deliverAll(x);
        e.due("balance(1)", 500, x.balance(1));
        x.insert(2);
        x.pin(4);
        x.cut();
        x.power();
        e.due("count(1), a PIN check is not begun again", 0, x.count(1));
    }
}
