/** Promise 24: count, over one long run. */
final class CountTest {
    private static final Expect e = new Expect();

    public static void main(String[] args) {
        otherNumbers();
        aLongRun();
        takenOffIsNotTheBalance();
        e.end();
    }

    private static void otherNumbers() {
        AutoTeller x = Setup.open();
        for (int bad : new int[] {-1, 11, Integer.MAX_VALUE, Integer.MIN_VALUE}) {
            e.due("count(" + bad + ")", -1, x.count(bad));
        }
    }

    private static void dueCounts(String when, AutoTeller x, long... want) {
        for (int what = 0; what < want.length; what++) {
            e.due(when + ": count(" + what + ")", want[what], x.count(what));
        }
    }

    private static void aLongRun() {
        AutoTeller x = Setup.ready();
        dueCounts("ready", x, 1, 0, -1, 0, 1, 0, 0, 0, 0, 0, 0);
        x.insert(0);
        dueCounts("inserted", x, 1, 1, 0, 0, 1, 0, 0, 0, 0, 0, 0);
        x.pin(1234);
        dueCounts("PIN sent", x, 1, 2, 0, 0, 2, 0, 1, 0, 0, 0, 0);
        x.deliver(0);
        x.deliver(0);
        dueCounts("open", x, 1, 3, 0, 0, 2, 0, 0, 0, 0, 0, 0);
        x.ask(180);
        dueCounts("asked", x, 1, 4, 0, 1, 3, 0, 1, 0, 0, 0, 0);
        x.deliver(0);
        dueCounts("taken off", x, 1, 4, 0, 1, 3, 0, 1, 0, 0, 180, 0);
        x.deliver(0);
        dueCounts("paid", x, 1, 3, 0, 3, 3, 1, 0, 0, 0, 180, 180);
        x.take();
        dueCounts("taken", x, 1, 3, 0, 3, 3, 1, 0, 0, 0, 180, 180);
        x.ask(70);
        x.deliver(0);
        x.timeout();
        dueCounts("reversing", x, 1, 5, -1, 5, 4, 1, 2, 0, 0, 250, 180);
        x.cut();
        dueCounts("off", x, 0, -1, -1, 5, 4, 1, 2, 0, 0, 250, 180);
        x.deliver(0);
        dueCounts("gone", x, 0, -1, -1, 5, 4, 1, 1, 0, 0, 250, 180);
        x.deliver(0);
        dueCounts("reversed", x, 0, -1, -1, 5, 4, 1, 1, 0, 0, 180, 180);
        x.power();
        dueCounts("on again", x, 1, 5, -1, 5, 4, 1, 2, 0, 0, 180, 180);
        x.poke(1, 12, 4);
        x.deliver(1);
        dueCounts("dropped by the host", x, 1, 5, -1, 5, 4, 1, 1, 1, 0, 180, 180);
        x.deliver(0);
        dueCounts("ended", x, 1, 0, -1, 6, 4, 1, 0, 1, 0, 180, 180);
    }

    private static void takenOffIsNotTheBalance() {
        AutoTeller x = Setup.answered(180);
        x.account(0, 5);
        e.due("count(9) after account()", 180, x.count(9));
        x.timeout();
        x.deliver(1);
        e.due("count(9) when reversed", 0, x.count(9));
        e.due("balance(0) when reversed", 185, x.balance(0));
    }
}
