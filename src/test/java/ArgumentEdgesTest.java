/**
 * Of each argument of each call: the smallest and the largest number that is taken, with what it does, and the
 * next ones on both sides, which are refused and change nothing.
 */
final class ArgumentEdgesTest {
    private static final Expect e = new Expect();
    private static final int FALSE = 0;
    private static final int NONE = AutoTeller.NONE;

    private interface Argument {
        long answer(AutoTeller x, int value);
    }

    public static void main(String[] args) {
        account();
        card();
        load();
        insert();
        pin();
        ask();
        lettersInFlight();
        pokeBytes();
        arm();
        cassette();
        mix();
        balance();
        ofCard();
        record();
        count();
        e.end();
    }

    private static void edges(String name, Expect.State state, int least, int most, int refusal, Argument argument) {
        for (int value : new int[] {least, most}) {
            e.due(name + " = " + value + " is taken", true, argument.answer(state.make(), value) != refusal);
        }
        for (int value : new int[] {least - 1, most + 1, Integer.MIN_VALUE, Integer.MAX_VALUE}) {
            e.dueNothingDone(name + " = " + value, state, x -> argument.answer(x, value), refusal);
        }
    }

    private static void account() {
        edges("account of account()", Setup::open, 0, 7, FALSE, (x, a) -> Expect.bit(x.account(a, 5)));
        edges("balance of account()", Setup::open, 0, 1000000000, FALSE, (x, b) -> Expect.bit(x.account(0, b)));
        for (long b : new long[] {Long.MIN_VALUE, Long.MAX_VALUE, 1L << 32, (1L << 32) + 5, -(1L << 32)}) {
            e.dueNothingDone("balance of account() = " + b, Setup::open, x -> Expect.bit(x.account(0, b)), FALSE);
        }
        AutoTeller x = new AutoTeller();
        x.account(0, 1000000000);
        x.account(7, 1000000000);
        x.account(7, 0);
        e.due("balance(0), the largest", 1000000000, x.balance(0));
        e.due("balance(7), the smallest", 0, x.balance(7));
    }

    private static void card() {
        edges("card of card()", Setup::open, 0, 15, FALSE, (x, c) -> Expect.bit(x.card(c, 1, 5)));
        edges("account of card()", Setup::open, 0, 7, FALSE, (x, a) -> Expect.bit(x.card(0, a, 5)));
        edges("PIN of card()", Setup::open, 0, 9999, FALSE, (x, p) -> Expect.bit(x.card(0, 1, p)));
        for (int card : new int[] {0, 15}) {
            for (int pin : new int[] {0, 9999}) {
                AutoTeller x = new AutoTeller();
                x.card(card, 7, pin);
                e.due("ofCard(" + card + ", 2)", 7, x.ofCard(card, 2));
                x.insert(card);
                Setup.enterPin(x, pin);
                e.due("count(1) after pin(" + pin + ") of card " + card, 3, x.count(1));
            }
        }
    }

    private static void load() {
        edges("cassette of load()", Setup::open, 0, 3, FALSE, (x, c) -> Expect.bit(x.load(c, 5, 5)));
        edges("denomination of load()", Setup::open, 1, 1000, FALSE, (x, d) -> Expect.bit(x.load(0, d, 5)));
        edges("notes of load()", Setup::open, 0, 200, FALSE, (x, n) -> Expect.bit(x.load(0, 5, n)));
        for (int c : new int[] {0, 3}) {
            AutoTeller x = new AutoTeller();
            x.load(c, 1, 200);
            e.due("cassette(" + c + ", 0), the smallest", 1, x.cassette(c, 0));
            e.due("cassette(" + c + ", 1), the most", 200, x.cassette(c, 1));
            x.load(c, 1000, 0);
            e.due("cassette(" + c + ", 0), the largest", 1000, x.cassette(c, 0));
            e.due("cassette(" + c + ", 1), none", 0, x.cassette(c, 1));
        }
    }

    private static void insert() {
        edges("card of insert()", Setup::ready, 0, 15, FALSE, (x, c) -> Expect.bit(x.insert(c)));
        for (int c : new int[] {0, 15}) {
            AutoTeller x = Setup.ready();
            x.insert(c);
            e.due("count(2) after insert(" + c + ")", c, x.count(2));
        }
    }

    private static void pin() {
        edges("PIN of pin()", Setup::inserted, 0, 9999, FALSE, (x, p) -> Expect.bit(x.pin(p)));
        for (int p : new int[] {0, 9999}) {
            AutoTeller x = Setup.inserted();
            x.pin(p);
            e.due("bytes 8 and 9 of pin(" + p + ")", p, x.letter(0, 8) * 256 + x.letter(0, 9));
        }
    }

    /** Notes for the smallest amount and for the largest, and for those beyond them too. */
    private static AutoTeller openWithAllNotes() {
        AutoTeller x = Setup.open();
        x.account(0, 50000);
        x.load(0, 1, 200);
        x.load(3, 1000, 200);
        return x;
    }

    private static void ask() {
        edges("amount of ask()", ArgumentEdgesTest::openWithAllNotes, 1, 40000, NONE, AutoTeller::ask);
        for (int amount : new int[] {1, 40000}) {
            AutoTeller x = openWithAllNotes();
            e.due("ask(" + amount + ")", 1, x.ask(amount));
            Look.deliverAll(x);
            e.due("take() after ask(" + amount + ")", amount, x.take());
            e.due("balance(0) after ask(" + amount + ")", 50000 - amount, x.balance(0));
        }
        // 40001 would be 41 notes: NONE, and not 0, tells that it was looked at before the mix
        e.dueNothingDone("ask(0) without notes", ArgumentEdgesTest::openWithoutNotes, x -> x.ask(0), NONE);
        e.dueNothingDone("ask(1) without notes", ArgumentEdgesTest::openWithoutNotes, x -> x.ask(1), 0);
        e.dueNothingDone("ask(40000) without notes", ArgumentEdgesTest::openWithoutNotes, x -> x.ask(40000), 0);
        e.dueNothingDone("ask(40001) without notes", ArgumentEdgesTest::openWithoutNotes, x -> x.ask(40001), NONE);
    }

    private static AutoTeller openWithoutNotes() {
        AutoTeller x = Setup.open();
        for (int c = 0; c < 4; c++) {
            x.load(c, 1, 0);
        }
        return x;
    }

    /** A DEBIT and a REVERSAL. */
    private static AutoTeller withTwoLetters() {
        AutoTeller x = Setup.asked(100);
        x.timeout();
        return x;
    }

    private static void lettersInFlight() {
        Expect.State two = ArgumentEdgesTest::withTwoLetters;
        edges("letter of deliver()", two, 0, 1, NONE, AutoTeller::deliver);
        edges("letter of twice()", two, 0, 1, NONE, AutoTeller::twice);
        edges("letter of lose()", two, 0, 1, NONE, AutoTeller::lose);
        edges("letter of poke()", two, 0, 1, FALSE, (x, i) -> Expect.bit(x.poke(i, 0, 1)));
        edges("letter of letter()", two, 0, 1, NONE, (x, i) -> x.letter(i, 0));
        e.dueAnswer("deliver(0)", two, x -> x.deliver(0), 2);
        e.dueAnswer("deliver(1)", two, x -> x.deliver(1), 2);
        e.dueAnswer("twice(0)", two, x -> x.twice(0), 3);
        e.dueAnswer("twice(1)", two, x -> x.twice(1), 3);
        e.dueAnswer("lose(0)", two, x -> x.lose(0), 1);
        e.dueAnswer("lose(1)", two, x -> x.lose(1), 1);
        e.dueAnswer("letter(0, 0)", two, x -> x.letter(0, 0), 2);
        e.dueAnswer("letter(1, 0)", two, x -> x.letter(1, 0), 3);
    }

    private static void pokeBytes() {
        Expect.State two = ArgumentEdgesTest::withTwoLetters;
        edges("byte of poke()", two, 0, 12, FALSE, (x, k) -> Expect.bit(x.poke(1, k, 1)));
        edges("mask of poke()", two, 1, 255, FALSE, (x, mask) -> Expect.bit(x.poke(1, 0, mask)));
        edges("byte of letter()", two, 0, 12, NONE, (x, k) -> x.letter(1, k));
        for (int k = 0; k < 13; k++) {
            for (int mask : new int[] {1, 128, 255}) {
                AutoTeller x = withTwoLetters();
                int before = x.letter(1, k);
                x.poke(1, k, mask);
                e.due("letter(1, " + k + ") after mask " + mask, before ^ mask, x.letter(1, k));
                x.poke(1, k, mask);
                e.dueLook("after mask " + mask + " twice", Look.at(withTwoLetters()), Look.at(x));
            }
        }
    }

    private static void arm() {
        edges("steps of arm()", Setup::inserted, 0, 100, FALSE, (x, n) -> Expect.bit(x.arm(n)));
        AutoTeller x = Setup.inserted();
        x.arm(0);
        x.pin(1234);
        e.due("count(6) after arm(0): no step more", 0, x.count(6));
        e.due("count(0) after arm(0)", 0, x.count(0));
    }

    private static void cassette() {
        edges("cassette of cassette()", Setup::open, 0, 3, NONE, (x, c) -> x.cassette(c, 0));
        edges("what of cassette()", Setup::open, 0, 4, NONE, (x, what) -> x.cassette(3, what));
        e.dueAnswer("cassette(0, 0)", Setup::open, x -> x.cassette(0, 0), 10);
        e.dueAnswer("cassette(3, 0)", Setup::open, x -> x.cassette(3, 0), 100);
        e.dueAnswer("cassette(3, 4)", Setup::open, x -> x.cassette(3, 4), 0);
    }

    private static void mix() {
        Expect.State full = ArgumentEdgesTest::openWithAllNotes;
        edges("amount of mix()", full, 1, 40000, NONE, (x, amount) -> x.mix(amount, 0));
        edges("cassette of mix()", full, 0, 3, NONE, (x, c) -> x.mix(1, c));
        e.dueAnswer("mix(1, 0)", full, x -> x.mix(1, 0), 1);
        e.dueAnswer("mix(1, 3)", full, x -> x.mix(1, 3), 0);
        e.dueAnswer("mix(40000, 0)", full, x -> x.mix(40000, 0), 0);
        e.dueAnswer("mix(40000, 3)", full, x -> x.mix(40000, 3), 40);
        e.dueNothingDone("mix(40000, 3)", full, x -> x.mix(40000, 3), 40);
    }

    private static void balance() {
        edges("account of balance()", Setup::open, 0, 7, NONE, (x, a) -> x.balance(a));
        e.dueAnswer("balance(0)", Setup::open, x -> x.balance(0), 1000);
        e.dueAnswer("balance(7)", Setup::open, x -> x.balance(7), 0);
    }

    private static void ofCard() {
        for (int what = 0; what < 2; what++) {
            int w = what;
            edges("card of ofCard(.., " + w + ")", Setup::open, 0, 15, NONE, (x, card) -> x.ofCard(card, w));
        }
        edges("card of ofCard(.., 2)", ArgumentEdgesTest::withFirstAndLastCard, 0, 15, NONE,
                (x, card) -> x.ofCard(card, 2));
        edges("what of ofCard()", Setup::open, 0, 2, NONE, (x, what) -> x.ofCard(0, what));
    }

    private static AutoTeller withFirstAndLastCard() {
        AutoTeller x = Setup.ready();
        x.card(15, 7, 9);
        return x;
    }

    /** Three records. */
    private static AutoTeller paid() {
        AutoTeller x = Setup.open();
        Setup.withdraw(x, 70);
        return x;
    }

    private static void record() {
        for (int what = 0; what < 4; what++) {
            int w = what;
            edges("record of record(.., " + w + ")", ArgumentEdgesTest::paid, 0, 2, NONE, (x, k) -> x.record(k, w));
        }
        edges("what of record()", ArgumentEdgesTest::paid, 0, 3, NONE, (x, what) -> x.record(2, what));
    }

    private static void count() {
        edges("what of count()", Setup::open, 0, 10, NONE, AutoTeller::count);
    }
}
