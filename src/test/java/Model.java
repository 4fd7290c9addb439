import java.util.ArrayList;
import java.util.Arrays;
import java.util.HashMap;
import java.util.List;
import java.util.Map;

/**
 * The document once more, as short as Java's library lets it be, to be held against the class: power that goes is
 * an exception here, a note is an object that is moved, a mix is found by trying every way.
 */
final class Model {
    private static final class PowerGone extends RuntimeException {
        private static final long serialVersionUID = 1;
    }

    private record Note(int cassette, int worth) {
    }

    private record Entry(int kind, int trace, int amount, int card) {
    }

    private static final class Card {
        int account;
        int pin;
        int tries;
    }

    private static final class Debit {
        int amount;
        int account = -1;
        boolean reversed;
    }

    private static final class Mail {
        final int[] bytes = new int[13];
        boolean toHost;
    }

    private final long[] balances = new long[8];
    private final Map<Integer, Card> cards = new HashMap<>();
    private final Map<Integer, Integer> pinAnswers = new HashMap<>();
    private final Map<Integer, Debit> debits = new HashMap<>();

    private final int[] worths = {10, 20, 50, 100};
    private final List<List<Note>> cassettes = new ArrayList<>();
    private final List<Note> stacker = new ArrayList<>();
    private final List<Note> tray = new ArrayList<>();
    private final List<Note> bin = new ArrayList<>();
    private final List<Entry> journal = new ArrayList<>();
    private final List<Integer> kept = new ArrayList<>();
    private int slot = -1;
    private int nextTrace = 1;
    private int openings;
    private int openingsAtRecordOne;
    private boolean on = true;
    private int phase;
    private Integer armed;
    private Entry atHand = new Entry(0, 0, 0, -1);

    private final List<Mail> flight = new ArrayList<>();
    private long dropped;
    private long lost;
    private long everInTray;

    Model() {
        for (int c = 0; c < 4; c++) {
            cassettes.add(new ArrayList<>());
        }
    }

    // ---- steps

    private void step() {
        if (armed != null) {
            if (armed == 0) {
                on = false;
                throw new PowerGone();
            }
            armed--;
        }
    }

    private void steps(Runnable all) {
        try {
            all.run();
        } catch (PowerGone gone) {
            on = false;
        }
    }

    private void write(int kind) {
        if (journal.size() < 300) {
            step();
            journal.add(new Entry(kind, atHand.trace(), atHand.amount(), atHand.card()));
            if (kind == 1) {
                openingsAtRecordOne = openings;
            }
        }
    }

    private void send(int kind, int value) {
        step();
        post(true, kind, atHand.trace(), atHand.card(), value, 0);
    }

    // ---- letters

    private static int check(int[] bytes) {
        int c = 65535;
        for (int k = 0; k <= 10; k++) {
            c ^= 256 * bytes[k];
            for (int n = 0; n < 8; n++) {
                c = c > 32767 ? 2 * c % 65536 ^ 4129 : 2 * c;
            }
        }
        return c;
    }

    private static long number(int[] bytes, int at) {
        return ((bytes[at] * 256L + bytes[at + 1]) * 256 + bytes[at + 2]) * 256 + bytes[at + 3];
    }

    private void post(boolean toHost, int kind, long trace, int card, long value, int code) {
        Mail mail = new Mail();
        mail.toHost = toHost;
        mail.bytes[0] = kind;
        for (int k = 0; k < 4; k++) {
            mail.bytes[4 - k] = (int) (trace >> 8 * k & 255);
            mail.bytes[9 - k] = (int) (value >> 8 * k & 255);
        }
        mail.bytes[5] = card;
        mail.bytes[10] = code;
        mail.bytes[11] = check(mail.bytes) / 256;
        mail.bytes[12] = check(mail.bytes) % 256;
        flight.add(mail);
        if (flight.size() > 24) {
            flight.remove(0);
            lost++;
        }
    }

    private void come(boolean toHost, int[] bytes) {
        if (toHost) {
            hostTakes(bytes);
        } else if (on) {
            steps(() -> machineTakes(bytes));
        }
    }

    // ---- the host

    private void hostTakes(int[] b) {
        long trace = number(b, 1);
        long value = number(b, 6);
        boolean fits = check(b) == b[11] * 256 + b[12] && trace >= 1 && trace <= 2000 && b[5] <= 15
                && (b[0] == 1 && value <= 9999 || b[0] == 2 && value >= 1 && value <= 40000 || b[0] == 3);
        if (!fits) {
            dropped++;
            return;
        }
        int code = b[0] == 1 ? pinCode((int) trace, b[5], (int) value)
                : b[0] == 2 ? debitCode((int) trace, b[5], (int) value) : reversalCode((int) trace);
        post(false, b[0] + 128, trace, b[5], value, code);
    }

    private int pinCode(int trace, int number, int pin) {
        if (!pinAnswers.containsKey(trace)) {
            Card card = cards.get(number);
            int code;
            if (card == null) {
                code = 1;
            } else if (card.tries == 3) {
                code = 2;
            } else if (card.pin == pin) {
                card.tries = 0;
                code = 0;
            } else {
                card.tries++;
                code = card.tries == 3 ? 2 : 1;
            }
            pinAnswers.put(trace, code);
        }
        return pinAnswers.get(trace);
    }

    private int debitCode(int trace, int number, int amount) {
        if (!debits.containsKey(trace)) {
            Debit debit = new Debit();
            Card card = cards.get(number);
            if (card != null && balances[card.account] >= amount) {
                debit.amount = amount;
                debit.account = card.account;
                balances[card.account] -= amount;
            }
            debits.put(trace, debit);
        }
        Debit debit = debits.get(trace);
        return debit.account >= 0 && !debit.reversed ? 0 : 1;
    }

    private int reversalCode(int trace) {
        Debit debit = debits.computeIfAbsent(trace, t -> new Debit());
        if (debit.account >= 0 && !debit.reversed) {
            balances[debit.account] += debit.amount;
        }
        debit.reversed = true;
        return 0;
    }

    // ---- the machine

    private void machineTakes(int[] b) {
        int due = phase == 2 ? 129 : phase == 4 ? 130 : phase == 5 ? 131 : -1;
        if (check(b) != b[11] * 256 + b[12] || b[0] != due || number(b, 1) != atHand.trace()) {
            dropped++;
        } else if (phase == 2) {
            pinAnswered(b[10]);
        } else if (phase == 5) {
            write(5);
            phase = 0;
        } else if (b[10] != 0) {
            write(6);
            phase = 3;
        } else {
            pay();
        }
    }

    private void pinAnswered(int code) {
        phase = code == 0 ? 3 : code == 2 ? 0 : 1;
        if (code == 2) {
            kept.add(slot);
            slot = -1;
        }
    }

    private void pay() {
        int[] mix = mixOf(atHand.amount());
        write(2);
        for (int c = 0; c < 4; c++) {
            for (int n = 0; n < mix[c]; n++) {
                step();
                stacker.add(cassettes.get(c).remove(0));
            }
        }
        step();
        everInTray += stacker.stream().mapToInt(Note::worth).sum();
        tray.addAll(stacker);
        stacker.clear();
        openings++;
        write(3);
        phase = 3;
    }

    private void reverse(boolean withRecord) {
        if (withRecord) {
            write(4);
        }
        if (!stacker.isEmpty()) {
            step();
            bin.addAll(stacker);
            stacker.clear();
        }
        send(3, atHand.amount());
        slot = -1;
        phase = 5;
    }

    /** Null: none. Every way is tried, from the most of cassette 0 down, and only one with fewer notes is better. */
    private int[] mixOf(int amount) {
        int[] best = null;
        int fewest = 41;
        if (amount < 1 || amount > 40000) {
            return null;
        }
        for (int a = Math.min(40, cassettes.get(0).size()); a >= 0; a--) {
            for (int b = Math.min(40 - a, cassettes.get(1).size()); b >= 0; b--) {
                for (int c = Math.min(40 - a - b, cassettes.get(2).size()); c >= 0; c--) {
                    int rest = amount - a * worths[0] - b * worths[1] - c * worths[2];
                    int d = rest / worths[3];
                    if (rest >= 0 && rest % worths[3] == 0 && d <= cassettes.get(3).size() && a + b + c + d < fewest) {
                        fewest = a + b + c + d;
                        best = new int[] {a, b, c, d};
                    }
                }
            }
        }
        return best;
    }

    private static boolean in(long number, long least, long most) {
        return number >= least && number <= most;
    }

    private void comeOut() {
        slot = -1;
        phase = 0;
    }

    // ---- the face

    boolean account(int account, long balance) {
        boolean done = in(account, 0, 7) && in(balance, 0, 1000000000);
        if (done) {
            balances[account] = balance;
        }
        return done;
    }

    boolean card(int number, int account, int pin) {
        if (!in(number, 0, 15) || !in(account, 0, 7) || !in(pin, 0, 9999)) {
            return false;
        }
        Card card = new Card();
        card.account = account;
        card.pin = pin;
        cards.put(number, card);
        return true;
    }

    boolean load(int c, int denomination, int notes) {
        if (!on || phase == 4 || !in(c, 0, 3) || !in(denomination, 1, 1000) || !in(notes, 0, 200)) {
            return false;
        }
        worths[c] = denomination;
        cassettes.get(c).clear();
        for (int n = 0; n < notes; n++) {
            cassettes.get(c).add(new Note(c, denomination));
        }
        return true;
    }

    boolean insert(int card) {
        if (!on || phase != 0 || !in(card, 0, 15) || kept.contains(card)) {
            return false;
        }
        slot = card;
        phase = 1;
        return true;
    }

    boolean pin(int pin) {
        if (!on || phase != 1 || !in(pin, 0, 9999) || nextTrace > 2000) {
            return false;
        }
        atHand = new Entry(0, nextTrace++, 0, slot);
        steps(() -> {
            send(1, pin);
            phase = 2;
        });
        return true;
    }

    int ask(int amount) {
        if (!on || phase != 3 || !in(amount, 1, 40000) || journal.size() > 290 || nextTrace > 2000) {
            return -1;
        }
        if (mixOf(amount) == null) {
            return 0;
        }
        atHand = new Entry(0, nextTrace++, amount, slot);
        steps(() -> {
            write(1);
            send(2, amount);
            phase = 4;
        });
        return 1;
    }

    boolean eject() {
        boolean done = on && (phase == 1 || phase == 3);
        if (done) {
            comeOut();
        }
        return done;
    }

    int take() {
        int worth = tray.stream().mapToInt(Note::worth).sum();
        tray.clear();
        return worth;
    }

    boolean timeout() {
        if (!on || phase != 2 && phase != 4 && phase != 5) {
            return false;
        }
        if (phase == 2) {
            comeOut();
        } else if (phase == 4) {
            steps(() -> reverse(true));
        } else {
            steps(() -> send(3, atHand.amount()));
        }
        return true;
    }

    int deliver(int i) {
        if (!in(i, 0, flight.size() - 1)) {
            return -1;
        }
        Mail mail = flight.remove(i);
        come(mail.toHost, mail.bytes);
        return flight.size();
    }

    int twice(int i) {
        if (!in(i, 0, flight.size() - 1)) {
            return -1;
        }
        Mail mail = flight.get(i);
        come(mail.toHost, mail.bytes);
        return flight.size();
    }

    int lose(int i) {
        if (!in(i, 0, flight.size() - 1)) {
            return -1;
        }
        flight.remove(i);
        return flight.size();
    }

    boolean poke(int i, int k, int mask) {
        boolean done = in(i, 0, flight.size() - 1) && in(k, 0, 12) && in(mask, 1, 255);
        if (done) {
            flight.get(i).bytes[k] ^= mask;
        }
        return done;
    }

    int letter(int i, int k) {
        return in(i, 0, flight.size() - 1) && in(k, 0, 12) ? flight.get(i).bytes[k] : -1;
    }

    boolean cut() {
        boolean done = on;
        on = false;
        return done;
    }

    boolean arm(int n) {
        boolean done = on && in(n, 0, 100);
        if (done) {
            armed = n;
        }
        return done;
    }

    boolean power() {
        if (on) {
            return false;
        }
        on = true;
        armed = null;
        comeOut();
        for (Entry entry : journal) {
            atHand = entry.kind() == 1 ? entry : atHand;
        }
        int last = journal.isEmpty() ? 0 : journal.get(journal.size() - 1).kind();
        boolean opened = openings > openingsAtRecordOne;
        steps(() -> {
            if (last == 1 || last == 2 && !opened) {
                reverse(true);
            } else if (last == 4 && !opened) {
                reverse(false);
            } else if (last == 2 || last == 4) {
                write(3);
            }
        });
        return true;
    }

    int cassette(int c, int what) {
        if (!in(c, 0, 3) || !in(what, 0, 4)) {
            return -1;
        }
        if (what < 2) {
            return what == 0 ? worths[c] : cassettes.get(c).size();
        }
        List<Note> place = what == 2 ? stacker : what == 3 ? tray : bin;
        return (int) place.stream().filter(note -> note.cassette() == c).count();
    }

    int mix(int amount, int c) {
        int[] mix = in(c, 0, 3) ? mixOf(amount) : null;
        return mix == null ? -1 : mix[c];
    }

    long balance(int account) {
        return in(account, 0, 7) ? balances[account] : -1;
    }

    int ofCard(int number, int what) {
        if (!in(number, 0, 15) || !in(what, 0, 2)) {
            return -1;
        }
        Card card = cards.get(number);
        if (what == 1) {
            return kept.contains(number) ? 1 : 0;
        }
        return what == 0 ? card == null ? 0 : card.tries : card == null ? -1 : card.account;
    }

    int record(int k, int what) {
        if (!in(k, 0, journal.size() - 1) || !in(what, 0, 3)) {
            return -1;
        }
        Entry entry = journal.get(k);
        return new int[] {entry.kind(), entry.trace(), entry.amount(), entry.card()}[what];
    }

    long count(int what) {
        long off = debits.values().stream().filter(d -> d.account >= 0 && !d.reversed).mapToLong(d -> d.amount).sum();
        long[] counts = {
            on ? 1 : 0, on ? phase : -1, slot, journal.size(), nextTrace, openings, flight.size(), dropped, lost, off,
            everInTray,
        };
        return in(what, 0, 10) ? counts[what] : -1;
    }

    int[] bytesOf(int i) {
        return Arrays.copyOf(flight.get(i).bytes, 13);
    }
}
