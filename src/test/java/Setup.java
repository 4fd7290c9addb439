/** Objects brought to a phase, and letters rewritten on the line with a check that is right again. */
final class Setup {
    static final int KIND = 0;
    static final int TRACE = 1;
    static final int CARD = 5;
    static final int VALUE = 6;
    static final int CODE = 10;

    private Setup() {
    }

    /** Card 0 (account 0 with 1000, PIN 1234); ten notes of 10, 20, 50, 100 each. Phase 0. */
    static AutoTeller ready() {
        AutoTeller x = new AutoTeller();
        x.account(0, 1000);
        x.card(0, 0, 1234);
        x.load(0, 10, 10);
        x.load(1, 20, 10);
        x.load(2, 50, 10);
        x.load(3, 100, 10);
        return x;
    }

    /** Phase 1. */
    static AutoTeller inserted() {
        AutoTeller x = ready();
        x.insert(0);
        return x;
    }

    /** Phase 2 with trace 1: the PIN is in flight. */
    static AutoTeller pinSent() {
        AutoTeller x = inserted();
        x.pin(1234);
        return x;
    }

    /** Phase 3, nothing in flight, trace 1 used. */
    static AutoTeller open() {
        AutoTeller x = inserted();
        enterPin(x, 1234);
        return x;
    }

    /** Phase 4 with trace 2: the DEBIT is in flight. */
    static AutoTeller asked(int amount) {
        AutoTeller x = open();
        x.ask(amount);
        return x;
    }

    /** Phase 4 with trace 2: the answer to the DEBIT is in flight. */
    static AutoTeller answered(int amount) {
        AutoTeller x = asked(amount);
        x.deliver(0);
        return x;
    }

    /** Phase 5 with trace 2: the host has the DEBIT, its answer was lost, the REVERSAL is in flight. */
    static AutoTeller reversing(int amount) {
        AutoTeller x = answered(amount);
        x.lose(0);
        x.timeout();
        return x;
    }

    static void enterPin(AutoTeller x, int pin) {
        x.pin(pin);
        x.deliver(0);
        x.deliver(0);
    }

    static void withdraw(AutoTeller x, int amount) {
        x.ask(amount);
        x.deliver(0);
        x.deliver(0);
    }

    /** Sets one byte of letter i, and its check. */
    static void setByte(AutoTeller x, int i, int k, int value) {
        overwrite(x, i, k, value);
        int check = checkOf(x, i);
        overwrite(x, i, 11, check / 256);
        overwrite(x, i, 12, check % 256);
    }

    /** Sets a number of four bytes of letter i, and its check. */
    static void setNumber(AutoTeller x, int i, int at, long number) {
        for (int k = 0; k < 4; k++) {
            setByte(x, i, at + k, (int) (number / (1L << (24 - 8 * k)) % 256));
        }
    }

    private static void overwrite(AutoTeller x, int i, int k, int value) {
        int mask = x.letter(i, k) ^ value;
        if (mask != 0) {
            x.poke(i, k, mask);
        }
    }

    static int checkOf(AutoTeller x, int i) {
        int[] bytes = new int[11];
        for (int k = 0; k < 11; k++) {
            bytes[k] = x.letter(i, k);
        }
        return checkOf(bytes);
    }

    /** The check as the remainder of a long division, so that it is not reckoned as the class does it. */
    static int checkOf(int[] bytes) {
        boolean[] bits = new boolean[11 * 8 + 16];
        for (int k = 0; k < 11; k++) {
            for (int bit = 0; bit < 8; bit++) {
                boolean set = (bytes[k] >> (7 - bit) & 1) == 1;
                bits[8 * k + bit] = k < 2 ? !set : set;
            }
        }
        boolean[] divisor = new boolean[17];
        divisor[0] = true;
        divisor[4] = true;
        divisor[11] = true;
        divisor[16] = true;
        for (int start = 0; start < 88; start++) {
            if (bits[start]) {
                for (int k = 0; k < 17; k++) {
                    bits[start + k] ^= divisor[k];
                }
            }
        }
        int check = 0;
        for (int k = 88; k < 104; k++) {
            check = 2 * check + (bits[k] ? 1 : 0);
        }
        return check;
    }
}
