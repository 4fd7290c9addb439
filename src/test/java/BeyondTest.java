/**
 * "The next trace is above 2000" (promises 6 and 7) takes more than the 512 calls that the document speaks of;
 * the class keeps it all the same, because the host has rows for 2000 traces and no more.
 */
final class BeyondTest {
    private static final Expect e = new Expect();

    public static void main(String[] args) {
        lastTraceForAPin();
        lastTraceForAWithdrawal();
        e.end();
    }

    /** Card 1 is not told, so that its PINs are refused and it stays in. */
    private static AutoTeller withNextTrace(int trace) {
        AutoTeller x = Setup.ready();
        x.insert(1);
        while (x.count(4) < trace) {
            Setup.enterPin(x, 0);
        }
        x.eject();
        x.insert(0);
        return x;
    }

    private static void lastTraceForAPin() {
        AutoTeller x = withNextTrace(2000);
        e.due("pin(1), trace 2000", true, x.pin(1));
        e.due("bytes 3 and 4", 2000, x.letter(0, 3) * 256 + x.letter(0, 4));
        x.deliver(0);
        x.deliver(0);
        e.due("count(1)", 1, x.count(1));
        e.due("ofCard(0, 0): the host took it", 1, x.ofCard(0, 0));
        e.due("count(4)", 2001, x.count(4));
        String before = Look.at(x);
        e.due("pin(1234), trace 2001", false, x.pin(1234));
        e.dueLook("pin(1234), trace 2001", before, Look.at(x));
        e.due("eject()", true, x.eject());
    }

    private static void lastTraceForAWithdrawal() {
        AutoTeller x = withNextTrace(1999);
        Setup.enterPin(x, 1234);
        e.due("ask(100), trace 2000", 1, x.ask(100));
        x.deliver(0);
        x.deliver(0);
        e.due("take()", 100, x.take());
        e.due("balance(0)", 900, x.balance(0));
        e.due("record(0, 1)", 2000, x.record(0, 1));
        String before = Look.at(x);
        e.due("ask(100), trace 2001", -1, x.ask(100));
        e.due("ask(5), trace 2001, no mix", -1, x.ask(5));
        e.dueLook("ask(100), trace 2001", before, Look.at(x));
    }
}
