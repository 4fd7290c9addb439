/** Promises 2, 3, 21 and 22: account, card, balance, ofCard. */
final class HostBooksTest {
    private static final Expect e = new Expect();

    public static void main(String[] args) {
        accounts();
        cards();
        cardToldOnceMore();
        accountsWhilePowerIsOff();
        e.end();
    }

    private static void accounts() {
        AutoTeller x = new AutoTeller();
        e.due("account(0, 0)", true, x.account(0, 0));
        e.due("account(7, 1000000000)", true, x.account(7, 1000000000L));
        e.due("balance(7)", 1000000000L, x.balance(7));
        e.due("account(7, 1000000001)", false, x.account(7, 1000000001L));
        e.due("account(7, 2^32)", false, x.account(7, 1L << 32));
        e.due("account(7, -1)", false, x.account(7, -1));
        e.due("account(7, Long.MIN_VALUE)", false, x.account(7, Long.MIN_VALUE));
        e.due("balance(7) after refusals", 1000000000L, x.balance(7));
        e.due("account(3, 12)", true, x.account(3, 12));
        e.due("account(3, 11)", true, x.account(3, 11));
        e.due("balance(3)", 11, x.balance(3));
        for (int a : new int[] {-1, 8, Integer.MAX_VALUE, Integer.MIN_VALUE}) {
            e.due("account(" + a + ", 1)", false, x.account(a, 1));
            e.due("balance(" + a + ")", -1, x.balance(a));
        }
        for (int a : new int[] {0, 1, 2, 4, 5, 6}) {
            e.due("balance(" + a + ")", 0, x.balance(a));
        }
    }

    private static void cards() {
        AutoTeller x = new AutoTeller();
        e.due("card(0, 0, 0)", true, x.card(0, 0, 0));
        e.due("card(15, 7, 9999)", true, x.card(15, 7, 9999));
        e.due("ofCard(15, 2)", 7, x.ofCard(15, 2));
        e.due("ofCard(0, 2)", 0, x.ofCard(0, 2));
        e.due("ofCard(1, 2)", -1, x.ofCard(1, 2));
        for (int card : new int[] {-1, 16, Integer.MAX_VALUE, Integer.MIN_VALUE}) {
            e.due("card(" + card + ", 0, 0)", false, x.card(card, 0, 0));
            for (int what = 0; what < 3; what++) {
                e.due("ofCard(" + card + ", " + what + ")", -1, x.ofCard(card, what));
            }
        }
        for (int bad : new int[] {-1, 8, Integer.MAX_VALUE, Integer.MIN_VALUE}) {
            e.due("card(1, " + bad + ", 0)", false, x.card(1, bad, 0));
        }
        for (int bad : new int[] {-1, 10000, Integer.MAX_VALUE, Integer.MIN_VALUE}) {
            e.due("card(1, 0, " + bad + ")", false, x.card(1, 0, bad));
        }
        e.due("ofCard(1, 2) after refusals", -1, x.ofCard(1, 2));
        for (int what : new int[] {-1, 3, Integer.MAX_VALUE, Integer.MIN_VALUE}) {
            e.due("ofCard(0, " + what + ")", -1, x.ofCard(0, what));
        }
    }

    private static void cardToldOnceMore() {
        AutoTeller x = Setup.inserted();
        Setup.enterPin(x, 1);
        Setup.enterPin(x, 2);
        e.due("ofCard(0, 0)", 2, x.ofCard(0, 0));
        e.due("card(0, 8, 5)", false, x.card(0, 8, 5));
        e.due("ofCard(0, 0) after a refusal", 2, x.ofCard(0, 0));
        e.due("card(0, 4, 5)", true, x.card(0, 4, 5));
        e.due("ofCard(0, 0)", 0, x.ofCard(0, 0));
        e.due("ofCard(0, 2)", 4, x.ofCard(0, 2));
        Setup.enterPin(x, 1234);
        e.due("count(1) after the old PIN", 1, x.count(1));
        Setup.enterPin(x, 5);
        e.due("count(1) after the new PIN", 3, x.count(1));
    }

    private static void accountsWhilePowerIsOff() {
        AutoTeller x = new AutoTeller();
        x.cut();
        e.due("account(0, 5) while off", true, x.account(0, 5));
        e.due("card(0, 1, 5) while off", true, x.card(0, 1, 5));
        e.due("balance(0)", 5, x.balance(0));
        e.due("ofCard(0, 2)", 1, x.ofCard(0, 2));
    }
}
