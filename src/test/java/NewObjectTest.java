/** Promise 1: a new object. */
final class NewObjectTest {
    public static void main(String[] args) {
        Expect e = new Expect();
        AutoTeller x = new AutoTeller();
        int[] denominations = {10, 20, 50, 100};
        for (int c = 0; c < 4; c++) {
            e.due("cassette(" + c + ", 0)", denominations[c], x.cassette(c, 0));
            for (int what = 1; what <= 4; what++) {
                e.due("cassette(" + c + ", " + what + ")", 0, x.cassette(c, what));
            }
            e.due("mix(10, " + c + ")", -1, x.mix(10, c));
        }
        for (int a = 0; a < 8; a++) {
            e.due("balance(" + a + ")", 0, x.balance(a));
        }
        for (int card = 0; card < 16; card++) {
            e.due("ofCard(" + card + ", 0)", 0, x.ofCard(card, 0));
            e.due("ofCard(" + card + ", 1)", 0, x.ofCard(card, 1));
            e.due("ofCard(" + card + ", 2)", -1, x.ofCard(card, 2));
        }
        long[] counts = {1, 0, -1, 0, 1, 0, 0, 0, 0, 0, 0};
        for (int what = 0; what < counts.length; what++) {
            e.due("count(" + what + ")", counts[what], x.count(what));
        }
        e.due("record(0, 0)", -1, x.record(0, 0));
        e.due("letter(0, 0)", -1, x.letter(0, 0));
        e.due("take()", 0, x.take());
        e.due("power()", false, x.power());
        twoObjectsShareNothing(e);
        e.end();
    }

    private static void twoObjectsShareNothing(Expect e) {
        AutoTeller used = Setup.answered(180);
        used.load(0, 7, 3);
        used.deliver(0);
        used.load(0, 7, 3);
        AutoTeller fresh = new AutoTeller();
        e.due("fresh cassette(0, 0)", 10, fresh.cassette(0, 0));
        e.due("fresh cassette(0, 1)", 0, fresh.cassette(0, 1));
        e.due("fresh count(3)", 0, fresh.count(3));
        e.due("fresh balance(0)", 0, fresh.balance(0));
    }
}
