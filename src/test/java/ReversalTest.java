/** Promise 10: timeout; and what the host answers to a REVERSAL. */
final class ReversalTest {
    private static final Expect e = new Expect();

    public static void main(String[] args) {
        timeoutByPhase();
        timeoutOfAPin();
        timeoutOfADebit();
        reversalLetter();
        reversedOnce();
        reversalBeforeTheDebit();
        reversalOfARefusedDebit();
        reversalOfThePinsTrace();
        reversalGoesToTheAccountOfTheDebit();
        reversalOnceMore();
        answerToTheDebitComesLate();
        reversalWithAnotherAmount();
        e.end();
    }

    private static void timeoutByPhase() {
        AutoTeller x = Setup.ready();
        e.due("timeout() in phase 0", false, x.timeout());
        x.insert(0);
        e.due("timeout() in phase 1", false, x.timeout());
        e.due("count(1)", 1, x.count(1));
        x = Setup.open();
        e.due("timeout() in phase 3", false, x.timeout());
        e.due("count(1)", 3, x.count(1));
        x = Setup.asked(10);
        x.cut();
        e.due("timeout() while off", false, x.timeout());
        e.due("count(6)", 1, x.count(6));
    }

    private static void timeoutOfAPin() {
        AutoTeller x = Setup.inserted();
        x.pin(1234);
        x.deliver(0);
        e.due("timeout() in phase 2", true, x.timeout());
        e.due("count(1)", 0, x.count(1));
        e.due("count(2)", -1, x.count(2));
        e.due("count(3)", 0, x.count(3));
        x.insert(0);
        x.pin(1);
        e.due("deliver(0), the late answer", 1, x.deliver(0));
        e.due("count(1): its trace is not the one at hand", 2, x.count(1));
        e.due("count(7)", 1, x.count(7));
    }

    private static void timeoutOfADebit() {
        AutoTeller x = Setup.asked(180);
        e.due("timeout() in phase 4", true, x.timeout());
        e.due("count(1)", 5, x.count(1));
        e.due("count(2)", -1, x.count(2));
        e.due("count(3)", 2, x.count(3));
        e.due("record(1, 0)", 4, x.record(1, 0));
        e.due("record(1, 1)", 2, x.record(1, 1));
        e.due("record(1, 2)", 180, x.record(1, 2));
        e.due("record(1, 3)", 0, x.record(1, 3));
        e.due("count(6)", 2, x.count(6));
        e.due("count(4): the same trace", 3, x.count(4));
        e.due("deliver(0), DEBIT", 2, x.deliver(0));
        e.due("balance(0)", 820, x.balance(0));
        e.due("deliver(0), REVERSAL", 2, x.deliver(0));
        e.due("balance(0)", 1000, x.balance(0));
        e.due("count(9)", 0, x.count(9));
        e.due("deliver(0), answer to DEBIT", 1, x.deliver(0));
        e.due("count(7)", 1, x.count(7));
        e.due("count(1)", 5, x.count(1));
        e.due("deliver(0), answer to REVERSAL", 0, x.deliver(0));
        e.due("count(1)", 0, x.count(1));
        e.due("record(2, 0)", 5, x.record(2, 0));
        e.due("record(2, 1)", 2, x.record(2, 1));
        e.due("record(2, 2)", 180, x.record(2, 2));
        e.due("record(2, 3)", 0, x.record(2, 3));
        e.due("take()", 0, x.take());
        e.due("insert(0)", true, x.insert(0));
    }

    private static void reversalLetter() {
        AutoTeller x = Setup.reversing(180);
        int[] bytes = {3, 0, 0, 0, 2, 0, 0, 0, 0, 180, 0};
        for (int k = 0; k < bytes.length; k++) {
            e.due("letter(0, " + k + ") of REVERSAL", bytes[k], x.letter(0, k));
        }
        e.due("check of REVERSAL", Setup.checkOf(x, 0), x.letter(0, 11) * 256 + x.letter(0, 12));
        x.deliver(0);
        bytes[0] = 131;
        for (int k = 0; k < bytes.length; k++) {
            e.due("letter(0, " + k + ") of its answer", bytes[k], x.letter(0, k));
        }
    }

    private static void reversedOnce() {
        AutoTeller x = Setup.asked(100);
        x.twice(0);
        x.lose(1);
        x.timeout();
        e.due("balance(0)", 900, x.balance(0));
        x.twice(1);
        x.twice(1);
        e.due("balance(0)", 1000, x.balance(0));
        e.due("codes of both answers", 0, x.letter(2, 10) + x.letter(3, 10));
        x.lose(3);
        x.lose(2);
        x.deliver(0);
        e.due("kind of the last letter", 130, x.letter(1, 0));
        e.due("code of a DEBIT that was reversed", 1, x.letter(1, 10));
        e.due("balance(0)", 1000, x.balance(0));
        e.due("count(9)", 0, x.count(9));
    }

    private static void reversalBeforeTheDebit() {
        AutoTeller x = Setup.asked(100);
        x.timeout();
        x.deliver(1);
        e.due("code of a REVERSAL of a trace not known", 0, x.letter(1, 10));
        e.due("balance(0)", 1000, x.balance(0));
        x.deliver(0);
        e.due("code of a DEBIT that comes later", 1, x.letter(1, 10));
        e.due("balance(0)", 1000, x.balance(0));
        e.due("count(9)", 0, x.count(9));
        x.deliver(0);
        e.due("count(1)", 0, x.count(1));
        x.deliver(0);
        e.due("count(7)", 1, x.count(7));
    }

    private static void reversalOfARefusedDebit() {
        AutoTeller x = Setup.open();
        x.account(0, 0);
        x.ask(100);
        x.deliver(0);
        x.timeout();
        x.deliver(1);
        e.due("code", 0, x.letter(1, 10));
        e.due("balance(0)", 0, x.balance(0));
        e.due("count(9)", 0, x.count(9));
    }

    /** A trace is known by kind: what came as a PIN was no DEBIT, and goes on as before. */
    private static void reversalOfThePinsTrace() {
        AutoTeller x = Setup.inserted();
        x.pin(1);
        x.twice(0);
        x.twice(0);
        Setup.setByte(x, 0, Setup.KIND, 3);
        x.twice(0);
        e.due("code of a REVERSAL of the PIN's trace", 0, x.letter(3, 10));
        Setup.setByte(x, 0, Setup.KIND, 2);
        x.twice(0);
        e.due("code of a DEBIT with that trace, reversed", 1, x.letter(4, 10));
        Setup.setByte(x, 0, Setup.KIND, 1);
        Setup.setNumber(x, 0, Setup.VALUE, 1234);
        x.twice(0);
        e.due("code of the PIN, as before", 1, x.letter(5, 10));
        e.due("PIN of the answer, as asked", 210, x.letter(5, 9));
        e.due("ofCard(0, 0)", 1, x.ofCard(0, 0));
        e.due("balance(0)", 1000, x.balance(0));
        x = Setup.asked(100);
        x.twice(0);
        Setup.setByte(x, 0, Setup.KIND, 1);
        x.twice(0);
        e.due("code of a PIN with the DEBIT's trace, a new one", 1, x.letter(2, 10));
        e.due("ofCard(0, 0)", 1, x.ofCard(0, 0));
    }

    private static void reversalGoesToTheAccountOfTheDebit() {
        AutoTeller x = Setup.reversing(100);
        x.card(0, 1, 1234);
        x.deliver(0);
        e.due("balance(0)", 1000, x.balance(0));
        e.due("balance(1)", 0, x.balance(1));
        x = Setup.reversing(100);
        x.account(0, 1000000000L);
        x.deliver(0);
        e.due("balance(0) above what account() sets", 1000000100L, x.balance(0));
    }

    private static void reversalOnceMore() {
        AutoTeller x = Setup.reversing(100);
        e.due("timeout() in phase 5", true, x.timeout());
        e.due("timeout() in phase 5", true, x.timeout());
        e.due("count(6)", 3, x.count(6));
        e.due("count(3): no record more", 2, x.count(3));
        e.due("count(1)", 5, x.count(1));
        for (int k = 0; k < 13; k++) {
            e.due("letter(2, " + k + ")", x.letter(0, k), x.letter(2, k));
        }
        x.lose(0);
        x.lose(0);
        x.deliver(0);
        x.deliver(0);
        e.due("count(1)", 0, x.count(1));
        e.due("balance(0)", 1000, x.balance(0));
    }

    private static void answerToTheDebitComesLate() {
        AutoTeller x = Setup.answered(100);
        x.timeout();
        x.deliver(0);
        e.due("count(1)", 5, x.count(1));
        e.due("count(7)", 1, x.count(7));
        e.due("take()", 0, x.take());
        e.due("count(5)", 0, x.count(5));
    }

    /** What is on the balance again is what was taken off it, whatever the letter says. */
    private static void reversalWithAnotherAmount() {
        AutoTeller x = Setup.reversing(100);
        Setup.setNumber(x, 0, Setup.VALUE, 4294967295L);
        Setup.setByte(x, 0, Setup.CARD, 15);
        x.deliver(0);
        e.due("count(7)", 0, x.count(7));
        e.due("balance(0)", 1000, x.balance(0));
        e.due("amount of the answer, highest byte", 255, x.letter(0, 6));
        e.due("card of the answer", 15, x.letter(0, 5));
        x.deliver(0);
        e.due("count(1)", 0, x.count(1));
        e.due("record(2, 2)", 100, x.record(2, 2));
    }
}
