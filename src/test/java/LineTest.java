/** Promises 11 to 15: deliver, twice, lose, poke, letter; and what is dropped. */
final class LineTest {
    private static final Expect e = new Expect();

    public static void main(String[] args) {
        noneSuch();
        loseKeepsTheOrder();
        deliverFromTheMiddle();
        twiceStays();
        pokeChangesAByte();
        everyBitIsChecked();
        checksOfManyLetters();
        changedBytesGoWithTheirLetter();
        hostDrops();
        hostTakesTheEdges();
        hostReadsTheEdges();
        machineDropsOtherTraces();
        machineDropsOtherKinds();
        machineDropsWhatItDoesNotAwait();
        lettersStayOnTheirWay();
        e.end();
    }

    private static void noneSuch() {
        AutoTeller x = Setup.inserted();
        for (int n = 0; n < 2; n++) {
            for (int bad : new int[] {-1, n, 23, 24, Integer.MAX_VALUE, Integer.MIN_VALUE}) {
                e.due("deliver(" + bad + ")", -1, x.deliver(bad));
                e.due("twice(" + bad + ")", -1, x.twice(bad));
                e.due("lose(" + bad + ")", -1, x.lose(bad));
                e.due("poke(" + bad + ", 0, 1)", false, x.poke(bad, 0, 1));
                e.due("letter(" + bad + ", 0)", -1, x.letter(bad, 0));
            }
            x.pin(1234);
        }
        for (int bad : new int[] {-1, 13, Integer.MAX_VALUE, Integer.MIN_VALUE}) {
            e.due("poke(0, " + bad + ", 1)", false, x.poke(0, bad, 1));
            e.due("letter(0, " + bad + ")", -1, x.letter(0, bad));
        }
        for (int bad : new int[] {0, -1, 256, Integer.MAX_VALUE, Integer.MIN_VALUE}) {
            e.due("poke(0, 0, " + bad + ")", false, x.poke(0, 0, bad));
        }
        e.due("letter(0, 0)", 1, x.letter(0, 0));
        e.due("deliver(0)", 1, x.deliver(0));
        e.due("count(7)", 0, x.count(7));
    }

    /** PIN checks that time out leave letters with traces 1, 2, 3 ... in flight. */
    private static AutoTeller withLetters(int n) {
        AutoTeller x = Setup.ready();
        for (int k = 0; k < n; k++) {
            x.insert(0);
            x.pin(1234);
            x.timeout();
        }
        return x;
    }

    private static void dueTraces(String when, AutoTeller x, int... traces) {
        e.due(when + ": count(6)", traces.length, x.count(6));
        for (int i = 0; i < traces.length; i++) {
            e.due(when + ": letter(" + i + ", 4)", traces[i], x.letter(i, 4));
        }
        e.due(when + ": letter(" + traces.length + ", 4)", -1, x.letter(traces.length, 4));
    }

    private static void loseKeepsTheOrder() {
        AutoTeller x = withLetters(4);
        e.due("lose(1)", 3, x.lose(1));
        dueTraces("after lose(1)", x, 1, 3, 4);
        e.due("lose(2)", 2, x.lose(2));
        dueTraces("after lose(2)", x, 1, 3);
        e.due("lose(0)", 1, x.lose(0));
        dueTraces("after lose(0)", x, 3);
        e.due("lose(0)", 0, x.lose(0));
        e.due("count(8): not by want of room", 0, x.count(8));
        e.due("count(7)", 0, x.count(7));
        x.insert(0);
        x.pin(1234);
        dueTraces("sent after that", x, 5);
        x.cut();
        e.due("lose(0) while off", 0, x.lose(0));
    }

    private static void deliverFromTheMiddle() {
        AutoTeller x = withLetters(3);
        e.due("deliver(1)", 3, x.deliver(1));
        dueTraces("after deliver(1)", x, 1, 3, 2);
        e.due("letter(2, 0)", 129, x.letter(2, 0));
        e.due("letter(0, 0)", 1, x.letter(0, 0));
        e.due("deliver(2)", 2, x.deliver(2));
        e.due("count(7)", 1, x.count(7));
        dueTraces("after deliver(2)", x, 1, 3);
    }

    private static void twiceStays() {
        AutoTeller x = withLetters(3);
        e.due("twice(1)", 4, x.twice(1));
        dueTraces("after twice(1)", x, 1, 2, 3, 2);
        e.due("letter(1, 0)", 1, x.letter(1, 0));
        e.due("letter(3, 0)", 129, x.letter(3, 0));
        e.due("twice(3)", 4, x.twice(3));
        dueTraces("after twice(3)", x, 1, 2, 3, 2);
        e.due("count(7)", 1, x.count(7));
        x = Setup.answered(100);
        e.due("twice(0)", 1, x.twice(0));
        e.due("take()", 100, x.take());
        e.due("twice(0) once more", 1, x.twice(0));
        e.due("take()", 0, x.take());
        e.due("count(7)", 1, x.count(7));
        x = Setup.answered(100);
        x.cut();
        e.due("twice(0) while off", 1, x.twice(0));
        e.due("count(7)", 0, x.count(7));
    }

    private static void pokeChangesAByte() {
        AutoTeller x = withLetters(2);
        e.due("poke(1, 9, 255)", true, x.poke(1, 9, 255));
        e.due("letter(1, 9)", 210 ^ 255, x.letter(1, 9));
        e.due("letter(0, 9)", 210, x.letter(0, 9));
        e.due("letter(1, 8)", 4, x.letter(1, 8));
        e.due("poke(1, 9, 255)", true, x.poke(1, 9, 255));
        e.due("letter(1, 9)", 210, x.letter(1, 9));
        e.due("poke(1, 12, 1)", true, x.poke(1, 12, 1));
        e.due("deliver(1)", 1, x.deliver(1));
        e.due("count(7)", 1, x.count(7));
    }

    private static void everyBitIsChecked() {
        for (int k = 0; k < 13; k++) {
            AutoTeller toHost = Setup.asked(100);
            AutoTeller toMachine = Setup.answered(100);
            for (int bit = 1; bit < 256; bit *= 2) {
                toHost.poke(0, k, bit);
                e.due("twice(0), byte " + k + " bit " + bit + " to the host", 1, toHost.twice(0));
                toHost.poke(0, k, bit);
                toMachine.poke(0, k, bit);
                e.due("twice(0), byte " + k + " bit " + bit + " to the machine", 1, toMachine.twice(0));
                toMachine.poke(0, k, bit);
            }
            e.due("count(7) of the host", 8, toHost.count(7));
            e.due("balance(0)", 1000, toHost.balance(0));
            e.due("count(7) of the machine", 8, toMachine.count(7));
            e.due("count(1)", 4, toMachine.count(1));
        }
    }

    /** Among so many the sums on both sides of 32767 are met, where the check is reckoned in two ways. */
    private static void checksOfManyLetters() {
        for (int pin = 0; pin <= 9999; pin++) {
            AutoTeller x = new AutoTeller();
            x.insert(pin % 16);
            x.pin(pin);
            e.due("check of PIN " + pin, Setup.checkOf(x, 0), x.letter(0, 11) * 256 + x.letter(0, 12));
        }
    }

    private static void changedBytesGoWithTheirLetter() {
        AutoTeller x = Setup.pinSent();
        for (int k = 0; k < 13; k++) {
            x.poke(0, k, 255);
        }
        x.lose(0);
        x.timeout();
        x.insert(0);
        x.pin(1234);
        int[] bytes = {1, 0, 0, 0, 2, 0, 0, 0, 4, 210, 0};
        for (int k = 0; k < bytes.length; k++) {
            e.due("letter(0, " + k + ") of the next letter", bytes[k], x.letter(0, k));
        }
        e.due("its check", Setup.checkOf(x, 0), x.letter(0, 11) * 256 + x.letter(0, 12));
    }

    private static void setPart(AutoTeller x, int at, long value) {
        if (at == Setup.TRACE || at == Setup.VALUE) {
            Setup.setNumber(x, 0, at, value);
        } else {
            Setup.setByte(x, 0, at, (int) value);
        }
    }

    private static void dueAtHost(String what, Expect.State state, int at, long value, boolean taken) {
        AutoTeller x = state.make();
        setPart(x, at, value);
        String part = what + " " + value;
        e.due("deliver(0) with " + part, taken ? 1 : 0, x.deliver(0));
        e.due("count(7) with " + part, taken ? 0 : 1, x.count(7));
        if (!taken) {
            dueDropped("with " + part, state.make(), x);
        }
    }

    /** A letter that is dropped is as one that is lost, but that it is counted. */
    private static void dueDropped(String when, AutoTeller twin, AutoTeller x) {
        twin.lose(0);
        e.dueLook(when, Look.at(twin).replace("count(7) = 0", "count(7) = 1"), Look.at(x));
    }

    private static void hostDrops() {
        for (int kind : new int[] {0, 4, 127, 128, 129, 130, 131, 255}) {
            dueAtHost("kind", Setup::pinSent, Setup.KIND, kind, false);
        }
        for (long trace : new long[] {0, 2001, 65536, 16777217, 2147483648L, 4294967295L}) {
            dueAtHost("trace of PIN", Setup::pinSent, Setup.TRACE, trace, false);
            dueAtHost("trace of DEBIT", () -> Setup.asked(100), Setup.TRACE, trace, false);
            dueAtHost("trace of REVERSAL", () -> Setup.reversing(100), Setup.TRACE, trace, false);
        }
        for (int card : new int[] {16, 17, 128, 255}) {
            dueAtHost("card of PIN", Setup::pinSent, Setup.CARD, card, false);
            dueAtHost("card of DEBIT", () -> Setup.asked(100), Setup.CARD, card, false);
            dueAtHost("card of REVERSAL", () -> Setup.reversing(100), Setup.CARD, card, false);
        }
        for (long pin : new long[] {10000, 65536, 2147483648L, 4294967295L}) {
            dueAtHost("PIN", Setup::pinSent, Setup.VALUE, pin, false);
        }
        for (long amount : new long[] {0, 40001, 2147483648L, 4294967295L}) {
            dueAtHost("amount of DEBIT", () -> Setup.asked(100), Setup.VALUE, amount, false);
        }
    }

    private static void hostTakesTheEdges() {
        for (int kind = 1; kind <= 3; kind++) {
            dueAtHost("kind", Setup::pinSent, Setup.KIND, kind, true);
        }
        for (long trace : new long[] {1, 2000}) {
            dueAtHost("trace of PIN", Setup::pinSent, Setup.TRACE, trace, true);
            dueAtHost("trace of DEBIT", () -> Setup.asked(100), Setup.TRACE, trace, true);
            dueAtHost("trace of REVERSAL", () -> Setup.reversing(100), Setup.TRACE, trace, true);
        }
        dueAtHost("card of PIN", Setup::pinSent, Setup.CARD, 15, true);
        dueAtHost("PIN", Setup::pinSent, Setup.VALUE, 0, true);
        dueAtHost("PIN", Setup::pinSent, Setup.VALUE, 9999, true);
        dueAtHost("amount of DEBIT", () -> Setup.asked(100), Setup.VALUE, 1, true);
        dueAtHost("amount of DEBIT", () -> Setup.asked(100), Setup.VALUE, 40000, true);
        dueAtHost("amount of REVERSAL", () -> Setup.reversing(100), Setup.VALUE, 0, true);
        dueAtHost("amount of REVERSAL", () -> Setup.reversing(100), Setup.VALUE, 40001, true);
        dueAtHost("code of DEBIT", () -> Setup.asked(100), Setup.CODE, 7, true);
        AutoTeller x = Setup.asked(100);
        Setup.setNumber(x, 0, Setup.TRACE, 1);
        x.deliver(0);
        e.due("balance(0): trace 1 is known as a PIN, not as a DEBIT", 900, x.balance(0));
    }

    /** The letters at the edges are not only answered: what they name is what is done. */
    private static void hostReadsTheEdges() {
        for (int pin : new int[] {0, 9999}) {
            AutoTeller x = Setup.pinSent();
            x.card(15, 0, pin);
            Setup.setByte(x, 0, Setup.CARD, 15);
            Setup.setNumber(x, 0, Setup.VALUE, pin);
            x.deliver(0);
            e.due("code of card 15 with PIN " + pin, 0, x.letter(0, 10));
        }
        for (int amount : new int[] {1, 40000}) {
            AutoTeller x = Setup.asked(100);
            x.account(7, 40000);
            x.card(15, 7, 0);
            Setup.setByte(x, 0, Setup.CARD, 15);
            Setup.setNumber(x, 0, Setup.VALUE, amount);
            x.deliver(0);
            e.due("code of card 15 with amount " + amount, 0, x.letter(0, 10));
            e.due("balance(7) less " + amount, 40000 - amount, x.balance(7));
            e.due("balance(0)", 1000, x.balance(0));
            e.due("count(9)", amount, x.count(9));
        }
        AutoTeller x = Setup.asked(100);
        Setup.setNumber(x, 0, Setup.TRACE, 2000);
        x.twice(0);
        x.twice(0);
        e.due("balance(0): trace 2000 is known, too", 900, x.balance(0));
    }

    private static void machineDropsOtherTraces() {
        for (long trace : new long[] {0, 1, 3, 258, 4294967295L}) {
            AutoTeller x = Setup.answered(100);
            Setup.setNumber(x, 0, Setup.TRACE, trace);
            x.deliver(0);
            e.due("count(1) with trace " + trace, 4, x.count(1));
            dueDropped("with trace " + trace, Setup.answered(100), x);
        }
    }

    private static void machineDropsOtherKinds() {
        for (int kind : new int[] {1, 2, 3, 129, 130, 131, 132, 255}) {
            dueAtMachine(LineTest::pinAnswered, kind, 2, kind == 129 ? 3 : 2);
            dueAtMachine(() -> Setup.answered(100), kind, 4, kind == 130 ? 3 : 4);
            dueAtMachine(LineTest::reversalAnswered, kind, 5, kind == 131 ? 0 : 5);
        }
    }

    private static AutoTeller pinAnswered() {
        AutoTeller x = Setup.pinSent();
        x.deliver(0);
        return x;
    }

    private static AutoTeller reversalAnswered() {
        AutoTeller x = Setup.reversing(100);
        x.deliver(0);
        return x;
    }

    /** In the phases 0, 1 and 3 the machine waits for nothing, not even for its last trace. */
    private static void machineDropsWhatItDoesNotAwait() {
        AutoTeller x = pinAnswered();
        x.timeout();
        e.due("deliver(0) in phase 0", 0, x.deliver(0));
        e.due("count(1)", 0, x.count(1));
        e.due("count(7)", 1, x.count(7));
        x = pinAnswered();
        x.twice(0);
        e.due("deliver(0) in phase 3", 0, x.deliver(0));
        e.due("count(1)", 3, x.count(1));
        e.due("count(7)", 1, x.count(7));
        x = Setup.inserted();
        x.pin(1);
        x.deliver(0);
        x.twice(0);
        e.due("deliver(0) in phase 1", 0, x.deliver(0));
        e.due("count(1)", 1, x.count(1));
        e.due("count(7)", 1, x.count(7));
    }

    private static void dueAtMachine(Expect.State state, int kind, int before, int after) {
        AutoTeller x = state.make();
        Setup.setByte(x, 0, Setup.KIND, kind);
        x.deliver(0);
        String when = "kind " + kind + " in phase " + before;
        e.due("count(1) after " + when, after, x.count(1));
        e.due("count(7) after " + when, before == after ? 1 : 0, x.count(7));
        if (before == after) {
            dueDropped(when, state.make(), x);
        }
    }

    /** A letter that the machine sent is for the host, whatever its kind is changed to, and the other way round. */
    private static void lettersStayOnTheirWay() {
        AutoTeller x = Setup.pinSent();
        Setup.setByte(x, 0, Setup.KIND, 129);
        x.cut();
        e.due("deliver(0) of PIN with the kind of an answer", 0, x.deliver(0));
        e.due("count(7): the host dropped it", 1, x.count(7));
        x = Setup.answered(100);
        Setup.setByte(x, 0, Setup.KIND, 3);
        x.cut();
        e.due("deliver(0) of an answer with the kind REVERSAL", 0, x.deliver(0));
        e.due("count(7): it is gone", 0, x.count(7));
        e.due("balance(0)", 900, x.balance(0));
    }
}
