/** All that can be seen of an object, as one text: two objects that differ anywhere differ in it. */
final class Look {
    private final AutoTeller x;
    private final StringBuilder text = new StringBuilder();

    private Look(AutoTeller x) {
        this.x = x;
    }

    /** 87 calls, four more for each record and 13 for each letter in flight. */
    static String at(AutoTeller x) {
        Look look = new Look(x);
        look.counts();
        look.hostBooks();
        look.notes();
        look.records();
        look.letters();
        return look.text.toString();
    }

    /** Goes on as a customer would, so that what only shows later (a trace at hand, what is armed) shows too. */
    static String later(AutoTeller x) {
        deliverAll(x);
        x.timeout();
        deliverAll(x);
        x.power();
        deliverAll(x);
        x.insert(0);
        Setup.enterPin(x, 1234);
        Setup.withdraw(x, 80);
        return at(x);
    }

    /** Every letter comes, in order, until nothing is in flight. */
    static void deliverAll(AutoTeller x) {
        for (int n = 0; n < 60 && x.deliver(0) != AutoTeller.NONE; n++) {
            continue;
        }
    }

    private void counts() {
        for (int what = 0; what <= 10; what++) {
            tell("count(" + what + ")", x.count(what));
        }
    }

    private void hostBooks() {
        for (int account = 0; account < 8; account++) {
            tell("balance(" + account + ")", x.balance(account));
        }
        for (int card = 0; card < 16; card++) {
            for (int what = 0; what < 3; what++) {
                tell("ofCard(" + card + ", " + what + ")", x.ofCard(card, what));
            }
        }
    }

    private void notes() {
        for (int c = 0; c < 4; c++) {
            for (int what = 0; what < 5; what++) {
                tell("cassette(" + c + ", " + what + ")", x.cassette(c, what));
            }
        }
    }

    private void records() {
        long size = x.count(3);
        for (int k = 0; k < size; k++) {
            for (int what = 0; what < 4; what++) {
                tell("record(" + k + ", " + what + ")", x.record(k, what));
            }
        }
    }

    private void letters() {
        long inFlight = x.count(6);
        for (int i = 0; i < inFlight; i++) {
            for (int k = 0; k < 13; k++) {
                tell("letter(" + i + ", " + k + ")", x.letter(i, k));
            }
        }
    }

    private void tell(String call, long answer) {
        text.append(call).append(" = ").append(answer).append('\n');
    }
}
