/** Promises 7 and 23: ask, record; what the host answers to a DEBIT; what the machine pays. */
final class WithdrawalTest {
    private static final Expect e = new Expect();

    public static void main(String[] args) {
        askRefuses();
        debitLetter();
        paid();
        refusedByTheBalance();
        refusedForACardThatIsNotTold();
        theLastOfABalance();
        otherCodesRefuse();
        repeatedDebitTakesOffOnce();
        refusedStaysRefused();
        machinePaysItsOwnAmount();
        recordsOfWhat();
        e.end();
    }

    private static void askRefuses() {
        AutoTeller x = Setup.ready();
        e.due("ask(10) in phase 0", -1, x.ask(10));
        x.insert(0);
        e.due("ask(10) in phase 1", -1, x.ask(10));
        x.pin(1234);
        e.due("ask(10) in phase 2", -1, x.ask(10));
        x.deliver(0);
        x.deliver(0);
        for (int bad : new int[] {0, -1, 40001, Integer.MAX_VALUE, Integer.MIN_VALUE}) {
            e.due("ask(" + bad + ")", -1, x.ask(bad));
        }
        e.due("ask(1), no mix", 0, x.ask(1));
        e.due("ask(40000), no mix", 0, x.ask(40000));
        e.due("count(4) after refusals", 2, x.count(4));
        e.due("count(3) after refusals", 0, x.count(3));
        e.due("count(1) after refusals", 3, x.count(1));
        e.due("ask(10)", 1, x.ask(10));
        e.due("ask(10) in phase 4", -1, x.ask(10));
        x.timeout();
        e.due("ask(10) in phase 5", -1, x.ask(10));
        x = Setup.open();
        x.cut();
        e.due("ask(10) while off", -1, x.ask(10));
        x = Setup.open();
        x.account(0, 40000);
        x.load(3, 1000, 40);
        e.due("ask(40000)", 1, x.ask(40000));
        x.deliver(0);
        x.deliver(0);
        e.due("take()", 40000, x.take());
        x = Setup.open();
        x.load(0, 1, 1);
        e.due("ask(1)", 1, x.ask(1));
    }

    private static void debitLetter() {
        AutoTeller x = Setup.ready();
        x.card(14, 0, 7);
        x.insert(14);
        Setup.enterPin(x, 7);
        x.ask(560);
        e.due("count(1)", 4, x.count(1));
        e.due("count(4)", 3, x.count(4));
        int[] bytes = {2, 0, 0, 0, 2, 14, 0, 0, 2, 48, 0};
        for (int k = 0; k < bytes.length; k++) {
            e.due("letter(0, " + k + ") of DEBIT", bytes[k], x.letter(0, k));
        }
        e.due("check of DEBIT", Setup.checkOf(x, 0), x.letter(0, 11) * 256 + x.letter(0, 12));
        e.due("count(3)", 1, x.count(3));
        e.due("record(0, 0)", 1, x.record(0, 0));
        e.due("balance(0) before it comes", 1000, x.balance(0));
        x.deliver(0);
        e.due("balance(0)", 440, x.balance(0));
        e.due("kind of the answer", 130, x.letter(0, 0));
        e.due("amount of the answer", 560, x.letter(0, 8) * 256 + x.letter(0, 9));
        e.due("code of the answer", 0, x.letter(0, 10));
    }

    private static void paid() {
        AutoTeller x = Setup.answered(180);
        e.due("count(9)", 180, x.count(9));
        e.due("count(10) before", 0, x.count(10));
        e.due("deliver(0)", 0, x.deliver(0));
        e.due("count(1)", 3, x.count(1));
        e.due("count(2)", 0, x.count(2));
        e.due("count(3)", 3, x.count(3));
        e.due("record(1, 0)", 2, x.record(1, 0));
        e.due("record(2, 0)", 3, x.record(2, 0));
        e.due("count(5)", 1, x.count(5));
        e.due("count(10)", 180, x.count(10));
        e.due("take()", 180, x.take());
        e.due("balance(0)", 820, x.balance(0));
        e.due("timeout() in phase 3", false, x.timeout());
        e.due("ask(10), once more", 1, x.ask(10));
    }

    private static void refusedByTheBalance() {
        AutoTeller x = Setup.open();
        x.account(0, 99);
        x.ask(100);
        x.deliver(0);
        e.due("code", 1, x.letter(0, 10));
        x.deliver(0);
        e.due("count(1)", 3, x.count(1));
        e.due("count(3)", 2, x.count(3));
        e.due("record(1, 0)", 6, x.record(1, 0));
        e.due("record(1, 1)", 2, x.record(1, 1));
        e.due("record(1, 2)", 100, x.record(1, 2));
        e.due("balance(0)", 99, x.balance(0));
        e.due("count(9)", 0, x.count(9));
        e.due("count(10)", 0, x.count(10));
        e.due("cassette(3, 1)", 10, x.cassette(3, 1));
    }

    private static void refusedForACardThatIsNotTold() {
        AutoTeller x = Setup.asked(100);
        Setup.setByte(x, 0, Setup.CARD, 9);
        x.deliver(0);
        e.due("code for a card not told", 1, x.letter(0, 10));
        e.due("card of the answer", 9, x.letter(0, 5));
        e.due("balance(0)", 1000, x.balance(0));
    }

    private static void theLastOfABalance() {
        AutoTeller x = Setup.open();
        x.account(0, 100);
        Setup.withdraw(x, 100);
        e.due("balance(0)", 0, x.balance(0));
        e.due("take()", 100, x.take());
    }

    private static void otherCodesRefuse() {
        for (int code : new int[] {1, 2, 3, 255}) {
            AutoTeller x = Setup.answered(100);
            Setup.setByte(x, 0, Setup.CODE, code);
            x.deliver(0);
            e.due("count(1) after code " + code, 3, x.count(1));
            e.due("record(1, 0) after code " + code, 6, x.record(1, 0));
            e.due("count(2) after code " + code, 0, x.count(2));
            e.due("ofCard(0, 1) after code " + code, 0, x.ofCard(0, 1));
        }
    }

    private static void repeatedDebitTakesOffOnce() {
        AutoTeller x = Setup.asked(100);
        x.twice(0);
        x.deliver(0);
        e.due("balance(0)", 900, x.balance(0));
        e.due("codes", 0, x.letter(0, 10) + x.letter(1, 10));
        x.twice(0);
        x.deliver(0);
        x.deliver(0);
        e.due("take()", 100, x.take());
        e.due("count(5)", 1, x.count(5));
        e.due("count(7): two answers fit nothing", 2, x.count(7));
    }

    private static void refusedStaysRefused() {
        AutoTeller x = Setup.open();
        x.account(0, 0);
        x.ask(100);
        x.twice(0);
        x.account(0, 1000);
        x.deliver(0);
        e.due("code as before", 1, x.letter(1, 10));
        e.due("balance(0)", 1000, x.balance(0));
    }

    private static void machinePaysItsOwnAmount() {
        AutoTeller x = Setup.answered(100);
        Setup.setNumber(x, 0, Setup.VALUE, 200);
        Setup.setByte(x, 0, Setup.CARD, 5);
        x.deliver(0);
        e.due("take(), with another amount in the answer", 100, x.take());
        e.due("record(2, 2)", 100, x.record(2, 2));
        e.due("record(2, 3)", 0, x.record(2, 3));
    }

    private static void recordsOfWhat() {
        AutoTeller x = Setup.ready();
        x.card(3, 0, 1);
        x.insert(3);
        Setup.enterPin(x, 1);
        Setup.withdraw(x, 70);
        for (int k = 0; k < 3; k++) {
            e.due("record(" + k + ", 0)", k + 1, x.record(k, 0));
            e.due("record(" + k + ", 1)", 2, x.record(k, 1));
            e.due("record(" + k + ", 2)", 70, x.record(k, 2));
            e.due("record(" + k + ", 3)", 3, x.record(k, 3));
        }
        for (int bad : new int[] {-1, 3, 299, 300, Integer.MAX_VALUE, Integer.MIN_VALUE}) {
            e.due("record(" + bad + ", 0)", -1, x.record(bad, 0));
        }
        for (int bad : new int[] {-1, 4, Integer.MAX_VALUE, Integer.MIN_VALUE}) {
            e.due("record(0, " + bad + ")", -1, x.record(0, bad));
        }
    }
}
