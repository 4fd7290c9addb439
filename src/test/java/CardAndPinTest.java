/** Promises 5, 6 and 8: insert, pin, eject; and what the host answers to a PIN. */
final class CardAndPinTest {
    private static final Expect e = new Expect();

    public static void main(String[] args) {
        insertAndEject();
        insertByPhase();
        pinRefuses();
        pinLetter();
        rightPin();
        wrongPinsKeepTheCard();
        triesAreClearedByTheRightPin();
        keptWithoutAskingForThePin();
        keptCardIsRefused();
        cardThatIsNotTold();
        otherCodesLeaveTheCardIn();
        repeatedPinIsOneTry();
        powerGoesInPin();
        e.end();
    }

    private static void insertAndEject() {
        AutoTeller x = new AutoTeller();
        for (int bad : new int[] {-1, 16, Integer.MAX_VALUE, Integer.MIN_VALUE}) {
            e.due("insert(" + bad + ")", false, x.insert(bad));
        }
        e.due("eject() in phase 0", false, x.eject());
        e.due("insert(15), not told", true, x.insert(15));
        e.due("count(1)", 1, x.count(1));
        e.due("count(2)", 15, x.count(2));
        e.due("insert(3) with one in", false, x.insert(3));
        e.due("count(2)", 15, x.count(2));
        e.due("eject()", true, x.eject());
        e.due("count(1)", 0, x.count(1));
        e.due("count(2)", -1, x.count(2));
        e.due("insert(0)", true, x.insert(0));
        x.cut();
        e.due("eject() while off", false, x.eject());
        e.due("count(2) while off", 0, x.count(2));
    }

    private static void insertByPhase() {
        AutoTeller x = Setup.inserted();
        x.pin(1234);
        e.due("insert(1) in phase 2", false, x.insert(1));
        e.due("eject() in phase 2", false, x.eject());
        x.deliver(0);
        x.deliver(0);
        e.due("insert(1) in phase 3", false, x.insert(1));
        x.ask(10);
        e.due("insert(1) in phase 4", false, x.insert(1));
        e.due("eject() in phase 4", false, x.eject());
        x.timeout();
        e.due("count(2) in phase 5", -1, x.count(2));
        e.due("insert(1) in phase 5", false, x.insert(1));
        e.due("eject() in phase 5", false, x.eject());
        x = Setup.open();
        e.due("eject() in phase 3", true, x.eject());
        e.due("count(1)", 0, x.count(1));
        e.due("count(2)", -1, x.count(2));
        x.cut();
        e.due("insert(0) while off", false, x.insert(0));
    }

    private static void pinRefuses() {
        AutoTeller x = Setup.ready();
        e.due("pin(1234) in phase 0", false, x.pin(1234));
        x.insert(0);
        for (int bad : new int[] {-1, 10000, Integer.MAX_VALUE, Integer.MIN_VALUE}) {
            e.due("pin(" + bad + ")", false, x.pin(bad));
        }
        e.due("count(4) after refusals", 1, x.count(4));
        e.due("count(6) after refusals", 0, x.count(6));
        e.due("pin(1234)", true, x.pin(1234));
        e.due("pin(1234) in phase 2", false, x.pin(1234));
        x.deliver(0);
        x.deliver(0);
        e.due("pin(1234) in phase 3", false, x.pin(1234));
        x.ask(10);
        e.due("pin(1234) in phase 4", false, x.pin(1234));
        x.timeout();
        e.due("pin(1234) in phase 5", false, x.pin(1234));
        x = Setup.inserted();
        x.cut();
        e.due("pin(1234) while off", false, x.pin(1234));
        x = Setup.inserted();
        e.due("pin(0)", true, x.pin(0));
        x = Setup.inserted();
        e.due("pin(9999)", true, x.pin(9999));
    }

    private static void pinLetter() {
        AutoTeller x = Setup.ready();
        x.insert(13);
        x.pin(9998);
        int[] bytes = {1, 0, 0, 0, 1, 13, 0, 0, 39, 14, 0};
        for (int k = 0; k < bytes.length; k++) {
            e.due("letter(0, " + k + ") of PIN", bytes[k], x.letter(0, k));
        }
        e.due("check of PIN", Setup.checkOf(x, 0), x.letter(0, 11) * 256 + x.letter(0, 12));
        e.due("count(1)", 2, x.count(1));
        e.due("count(4)", 2, x.count(4));
        e.due("count(3)", 0, x.count(3));
    }

    private static void rightPin() {
        AutoTeller x = Setup.inserted();
        x.pin(1234);
        x.deliver(0);
        int[] bytes = {129, 0, 0, 0, 1, 0, 0, 0, 4, 210, 0};
        for (int k = 0; k < bytes.length; k++) {
            e.due("letter(0, " + k + ") of the answer", bytes[k], x.letter(0, k));
        }
        e.due("check of the answer", Setup.checkOf(x, 0), x.letter(0, 11) * 256 + x.letter(0, 12));
        x.deliver(0);
        e.due("count(1)", 3, x.count(1));
        e.due("count(2)", 0, x.count(2));
    }

    private static void wrongPinsKeepTheCard() {
        AutoTeller x = Setup.inserted();
        for (int t = 1; t <= 2; t++) {
            x.pin(t);
            x.deliver(0);
            e.due("code of wrong PIN " + t, 1, x.letter(0, 10));
            e.due("ofCard(0, 0)", t, x.ofCard(0, 0));
            x.deliver(0);
            e.due("count(1) after wrong PIN " + t, 1, x.count(1));
        }
        x.pin(3);
        x.deliver(0);
        e.due("code of wrong PIN 3", 2, x.letter(0, 10));
        e.due("ofCard(0, 0)", 3, x.ofCard(0, 0));
        e.due("ofCard(0, 1) before the answer came", 0, x.ofCard(0, 1));
        x.deliver(0);
        e.due("count(1)", 0, x.count(1));
        e.due("count(2)", -1, x.count(2));
        e.due("ofCard(0, 1)", 1, x.ofCard(0, 1));
        e.due("insert(0), kept", false, x.insert(0));
        x.card(0, 0, 1234);
        x.cut();
        x.power();
        e.due("ofCard(0, 0) told again", 0, x.ofCard(0, 0));
        e.due("ofCard(0, 1) for ever", 1, x.ofCard(0, 1));
        e.due("insert(0), kept for ever", false, x.insert(0));
        e.due("insert(1)", true, x.insert(1));
    }

    private static void triesAreClearedByTheRightPin() {
        AutoTeller x = Setup.inserted();
        Setup.enterPin(x, 1);
        Setup.enterPin(x, 2);
        Setup.enterPin(x, 1234);
        e.due("count(1)", 3, x.count(1));
        e.due("ofCard(0, 0)", 0, x.ofCard(0, 0));
    }

    private static void keptWithoutAskingForThePin() {
        AutoTeller x = Setup.inserted();
        Setup.enterPin(x, 1);
        Setup.enterPin(x, 2);
        x.pin(3);
        x.deliver(0);
        x.lose(0);
        x.timeout();
        e.due("ofCard(0, 0)", 3, x.ofCard(0, 0));
        x.insert(0);
        x.pin(1234);
        x.deliver(0);
        e.due("code of the right PIN after three tries", 2, x.letter(0, 10));
        e.due("ofCard(0, 0)", 3, x.ofCard(0, 0));
        x.deliver(0);
        e.due("ofCard(0, 1)", 1, x.ofCard(0, 1));
    }

    private static AutoTeller withKeptCard() {
        AutoTeller x = Setup.ready();
        x.card(15, 0, 1234);
        x.insert(15);
        for (int wrong = 1; wrong <= 3; wrong++) {
            Setup.enterPin(x, wrong);
        }
        return x;
    }

    private static void keptCardIsRefused() {
        e.dueNothingDone("insert(15), kept", CardAndPinTest::withKeptCard, x -> Expect.bit(x.insert(15)), 0);
        e.dueAnswer("insert(14), another card", CardAndPinTest::withKeptCard, x -> Expect.bit(x.insert(14)), 1);
        e.dueNothingDone("eject(), kept", CardAndPinTest::withKeptCard, x -> Expect.bit(x.eject()), 0);
        e.dueAnswer("ofCard(14, 1)", CardAndPinTest::withKeptCard, x -> x.ofCard(14, 1), 0);
    }

    private static void cardThatIsNotTold() {
        AutoTeller x = Setup.ready();
        x.insert(1);
        for (int t = 0; t < 4; t++) {
            x.pin(0);
            x.deliver(0);
            e.due("code of a card not told", 1, x.letter(0, 10));
            x.deliver(0);
            e.due("count(1)", 1, x.count(1));
        }
        e.due("ofCard(1, 0)", 0, x.ofCard(1, 0));
    }

    private static void otherCodesLeaveTheCardIn() {
        for (int code : new int[] {1, 3, 128, 255}) {
            AutoTeller x = Setup.inserted();
            x.pin(1234);
            x.deliver(0);
            Setup.setByte(x, 0, Setup.CODE, code);
            x.deliver(0);
            e.due("count(1) after code " + code, 1, x.count(1));
            e.due("count(7) after code " + code, 0, x.count(7));
            e.due("count(2) after code " + code, 0, x.count(2));
        }
    }

    private static void repeatedPinIsOneTry() {
        AutoTeller x = Setup.inserted();
        x.pin(1);
        x.twice(0);
        x.twice(0);
        x.deliver(0);
        e.due("ofCard(0, 0)", 1, x.ofCard(0, 0));
        e.due("codes as before", 111, 100 * x.letter(0, 10) + 10 * x.letter(1, 10) + x.letter(2, 10));
        x.deliver(0);
        x.deliver(0);
        e.due("count(7): the second answer fits nothing", 1, x.count(7));
    }

    private static void powerGoesInPin() {
        AutoTeller x = Setup.inserted();
        x.arm(0);
        e.due("pin(1234) when the power goes", true, x.pin(1234));
        e.due("count(0)", 0, x.count(0));
        e.due("count(4): the trace is taken", 2, x.count(4));
        e.due("count(6): nothing is sent", 0, x.count(6));
        e.due("count(2): the card is in the slot", 0, x.count(2));
        x.power();
        e.due("count(1)", 0, x.count(1));
        e.due("count(2)", -1, x.count(2));
    }
}
