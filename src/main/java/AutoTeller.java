import java.util.Arrays;

/**
 * A cash machine and its host: cards with PINs whose wrong tries are counted, notes in cassettes
 * that are mixed, letters with checks over a line that loses and repeats them, and power that may
 * go at any step: what is taken off an account comes out as notes, or comes back.
 */
public final class AutoTeller {
    public static final int NONE = -1;

    private static final int ACCOUNTS = 8;
    private static final long LARGEST_BALANCE = 1000000000L;
    private static final int CARDS = 16;
    private static final int LARGEST_PIN = 9999;
    private static final int MOST_TRIES = 3;
    private static final int LAST_TRACE = 2000;
    private static final int LARGEST_AMOUNT = 40000;

    private static final int CASSETTES = 4;
    private static final int[] FIRST_DENOMINATIONS = {10, 20, 50, 100};
    private static final int LARGEST_DENOMINATION = 1000;
    private static final int MOST_LOADED = 200;
    private static final int MOST_MIXED = 40;

    private static final int MOST_RECORDS = 300;
    private static final int MOST_RECORDS_TO_ASK = 290;
    private static final int MOST_ARMED = 100;

    private static final int LETTER_BYTES = 13;
    private static final int CHECKED_BYTES = 11;
    private static final int MOST_IN_FLIGHT = 24;

    private static final int KIND_PIN = 1;
    private static final int KIND_DEBIT = 2;
    private static final int KIND_REVERSAL = 3;
    private static final int ANSWER = 128;

    private static final int CODE_DONE = 0;
    private static final int CODE_REFUSED = 1;
    private static final int CODE_KEEP = 2;

    private final Line line;
    private final Host host;
    private final Machine machine;
    /** Apart from the line, so that an answer cannot be written over the letter that it answers. */
    private final Letter arriving;

    public AutoTeller() {
        line = new Line();
        host = new Host(line);
        machine = new Machine(line);
        arriving = new Letter();
    }

    public boolean account(int account, long balance) {
        return host.setBalance(account, balance);
    }

    public boolean card(int card, int account, int pin) {
        return host.tellCard(card, account, pin);
    }

    public boolean load(int cassette, int denomination, int notes) {
        return machine.fillCassette(cassette, denomination, notes);
    }

    public boolean insert(int card) {
        return machine.putCardIn(card);
    }

    public boolean pin(int pin) {
        return machine.beginPinCheck(pin);
    }

    public int ask(int amount) {
        return machine.beginWithdrawal(amount);
    }

    public boolean eject() {
        return machine.giveCardBack();
    }

    public int take() {
        return machine.notes.clearTray();
    }

    public boolean timeout() {
        return machine.endWaiting();
    }

    public int deliver(int i) {
        if (!line.has(i)) {
            return NONE;
        }
        line.copyTo(i, arriving);
        line.remove(i);
        handOver();
        return line.inFlight;
    }

    public int twice(int i) {
        if (!line.has(i)) {
            return NONE;
        }
        line.copyTo(i, arriving);
        handOver();
        return line.inFlight;
    }

    public int lose(int i) {
        if (!line.has(i)) {
            return NONE;
        }
        line.remove(i);
        return line.inFlight;
    }

    public boolean poke(int i, int k, int mask) {
        return line.changeByte(i, k, mask);
    }

    public int letter(int i, int k) {
        return line.byteOf(i, k);
    }

    public boolean cut() {
        return machine.switchOff();
    }

    public boolean arm(int n) {
        return machine.allowSteps(n);
    }

    public boolean power() {
        return machine.switchOn();
    }

    public int cassette(int cassette, int what) {
        return machine.notes.tell(cassette, what);
    }

    public int mix(int amount, int cassette) {
        return machine.notes.mixedOf(amount, cassette);
    }

    public long balance(int account) {
        return host.balanceOf(account);
    }

    public int ofCard(int card, int what) {
        switch (what) {
            case 0:
                return host.triesOf(card);
            case 1:
                return machine.keptOf(card);
            case 2:
                return host.accountOf(card);
            default:
                return NONE;
        }
    }

    public int record(int k, int what) {
        return machine.journal.tell(k, what);
    }

    public long count(int what) {
        switch (what) {
            case 0:
                return machine.on ? 1 : 0;
            case 1:
                return machine.on ? machine.phase : NONE;
            case 2:
                return machine.slot;
            case 3:
                return machine.journal.size;
            case 4:
                return machine.nextTrace;
            case 5:
                return machine.openings;
            case 6:
                return line.inFlight;
            case 7:
                return host.dropped + machine.dropped;
            case 8:
                return line.lostForRoom;
            case 9:
                return host.takenOff;
            case 10:
                return machine.notes.everInTray;
            default:
                return NONE;
        }
    }

    private void handOver() {
        if (arriving.forHost) {
            host.receive(arriving);
        } else {
            machine.receive(arriving);
        }
    }

    private static boolean isWithin(long number, long least, long most) {
        return number >= least && number <= most;
    }

    private static boolean isCard(int card) {
        return isWithin(card, 0, CARDS - 1);
    }

    private static boolean isPin(long pin) {
        return isWithin(pin, 0, LARGEST_PIN);
    }

    private static boolean isAmount(long amount) {
        return isWithin(amount, 1, LARGEST_AMOUNT);
    }

    /** What goes over the line, and to which side: changed bytes do not turn a letter round. */
    private static final class Letter {
        private static final int AT_KIND = 0;
        private static final int AT_TRACE = 1;
        private static final int AT_CARD = 5;
        private static final int AT_VALUE = 6;
        private static final int AT_CODE = 10;
        private static final int AT_CHECK = 11;

        private final int[] bytes = new int[LETTER_BYTES];
        private boolean forHost;

        void write(int kind, int trace, int card, long value, int code) {
            bytes[AT_KIND] = kind;
            writeNumber(AT_TRACE, trace);
            bytes[AT_CARD] = card;
            writeNumber(AT_VALUE, value);
            bytes[AT_CODE] = code;
            int check = reckonCheck();
            bytes[AT_CHECK] = check >> 8;
            bytes[AT_CHECK + 1] = check & 255;
        }

        void copyFrom(Letter other) {
            System.arraycopy(other.bytes, 0, bytes, 0, LETTER_BYTES);
            forHost = other.forHost;
        }

        int kind() {
            return bytes[AT_KIND];
        }

        long trace() {
            return readNumber(AT_TRACE);
        }

        int cardNumber() {
            return bytes[AT_CARD];
        }

        /** The PIN or the amount. */
        long value() {
            return readNumber(AT_VALUE);
        }

        int code() {
            return bytes[AT_CODE];
        }

        boolean isSound() {
            return reckonCheck() == bytes[AT_CHECK] * 256 + bytes[AT_CHECK + 1];
        }

        private int reckonCheck() {
            int check = 65535;
            for (int k = 0; k < CHECKED_BYTES; k++) {
                check ^= bytes[k] << 8;
                for (int bit = 0; bit < 8; bit++) {
                    boolean high = check > 32767;
                    check = (check << 1) & 65535;
                    if (high) {
                        check ^= 4129;
                    }
                }
            }
            return check;
        }

        private void writeNumber(int at, long number) {
            for (int k = 0; k < 4 && at + k < LETTER_BYTES; k++) {
                bytes[at + k] = (int) (number >> (24 - 8 * k)) & 255;
            }
        }

        /** A long, because four bytes without a sign are more than an int holds. */
        private long readNumber(int at) {
            long number = 0;
            for (int k = 0; k < 4 && at + k < LETTER_BYTES; k++) {
                number = number * 256 + bytes[at + k];
            }
            return number;
        }
    }

    /** The letters in flight, in the order sent. Its rows are made once and used again. */
    private static final class Line {
        private final Letter[] letters = new Letter[MOST_IN_FLIGHT];
        private int inFlight;
        private int lostForRoom;

        Line() {
            for (int i = 0; i < MOST_IN_FLIGHT; i++) {
                letters[i] = new Letter();
            }
        }

        boolean has(int i) {
            return i >= 0 && i < inFlight;
        }

        void post(boolean forHost, int kind, int trace, int card, long value, int code) {
            if (inFlight >= MOST_IN_FLIGHT) {
                remove(0);
                lostForRoom++;
            }
            Letter letter = letters[inFlight];
            letter.forHost = forHost;
            letter.write(kind, trace, card, value, code);
            inFlight++;
        }

        void copyTo(int i, Letter copy) {
            if (has(i)) {
                copy.copyFrom(letters[i]);
            }
        }

        /** The row of the letter that goes is free from now on, behind those in flight. */
        void remove(int i) {
            if (!has(i)) {
                return;
            }
            Letter free = letters[i];
            for (int k = i; k < inFlight - 1; k++) {
                letters[k] = letters[k + 1];
            }
            inFlight--;
            letters[inFlight] = free;
        }

        boolean changeByte(int i, int k, int mask) {
            if (!has(i) || !isWithin(k, 0, LETTER_BYTES - 1) || !isWithin(mask, 1, 255)) {
                return false;
            }
            letters[i].bytes[k] ^= mask;
            return true;
        }

        int byteOf(int i, int k) {
            if (!has(i) || !isWithin(k, 0, LETTER_BYTES - 1)) {
                return NONE;
            }
            return letters[i].bytes[k];
        }
    }

    /** Keeps the accounts and cards, and what it answered to each trace. */
    private static final class Host {
        private static final int DEBIT_UNKNOWN = 0;
        private static final int DEBIT_REFUSED = 1;
        private static final int DEBIT_PAID = 2;
        private static final int DEBIT_REVERSED = 3;

        private final Line line;
        private final long[] balances = new long[ACCOUNTS];
        private final int[] accountOfCard = new int[CARDS];
        private final int[] pinOfCard = new int[CARDS];
        private final int[] triesOfCard = new int[CARDS];
        private final int[] pinCodes = new int[LAST_TRACE + 1];
        private final int[] debits = new int[LAST_TRACE + 1];
        private final int[] debitAmounts = new int[LAST_TRACE + 1];
        /** Kept, because a card may have been told with another account when a reversal comes. */
        private final int[] debitAccounts = new int[LAST_TRACE + 1];
        private long takenOff;
        private int dropped;

        Host(Line line) {
            this.line = line;
            Arrays.fill(accountOfCard, NONE);
            Arrays.fill(pinCodes, NONE);
        }

        boolean setBalance(int account, long balance) {
            if (!isAccount(account) || !isWithin(balance, 0, LARGEST_BALANCE)) {
                return false;
            }
            balances[account] = balance;
            return true;
        }

        boolean tellCard(int card, int account, int pin) {
            if (!isCard(card) || !isAccount(account) || !isPin(pin)) {
                return false;
            }
            accountOfCard[card] = account;
            pinOfCard[card] = pin;
            triesOfCard[card] = 0;
            return true;
        }

        long balanceOf(int account) {
            return isAccount(account) ? balances[account] : NONE;
        }

        int triesOf(int card) {
            return isCard(card) ? triesOfCard[card] : NONE;
        }

        int accountOf(int card) {
            return isCard(card) ? accountOfCard[card] : NONE;
        }

        void receive(Letter letter) {
            if (!letter.isSound() || !isUsable(letter)) {
                dropped++;
                return;
            }
            int kind = letter.kind();
            int trace = (int) letter.trace();
            int card = letter.cardNumber();
            long value = letter.value();
            int code = decide(kind, trace, card, value);
            line.post(false, kind + ANSWER, trace, card, value, code);
        }

        private static boolean isUsable(Letter letter) {
            if (!isWithin(letter.trace(), 1, LAST_TRACE) || !isCard(letter.cardNumber())) {
                return false;
            }
            switch (letter.kind()) {
                case KIND_PIN:
                    return isPin(letter.value());
                case KIND_DEBIT:
                    return isAmount(letter.value());
                case KIND_REVERSAL:
                    return true;
                default:
                    return false;
            }
        }

        private int decide(int kind, int trace, int card, long value) {
            if (!isWithin(trace, 1, LAST_TRACE) || !isCard(card)) {
                return CODE_REFUSED;
            }
            switch (kind) {
                case KIND_PIN:
                    if (pinCodes[trace] == NONE) {
                        pinCodes[trace] = tryPin(card, value);
                    }
                    return pinCodes[trace];
                case KIND_DEBIT:
                    if (debits[trace] == DEBIT_UNKNOWN) {
                        takeOff(trace, card, (int) value);
                    }
                    return debits[trace] == DEBIT_PAID ? CODE_DONE : CODE_REFUSED;
                default:
                    if (debits[trace] == DEBIT_PAID) {
                        giveBack(trace);
                    }
                    debits[trace] = DEBIT_REVERSED;
                    return CODE_DONE;
            }
        }

        private int tryPin(int card, long pin) {
            if (accountOfCard[card] == NONE) {
                return CODE_REFUSED;
            }
            if (triesOfCard[card] >= MOST_TRIES) {
                return CODE_KEEP;
            }
            if (pinOfCard[card] == pin) {
                triesOfCard[card] = 0;
                return CODE_DONE;
            }
            triesOfCard[card]++;
            return triesOfCard[card] >= MOST_TRIES ? CODE_KEEP : CODE_REFUSED;
        }

        private void takeOff(int trace, int card, int amount) {
            int account = accountOfCard[card];
            if (!isAccount(account) || balances[account] < amount) {
                debits[trace] = DEBIT_REFUSED;
                return;
            }
            balances[account] -= amount;
            takenOff += amount;
            debits[trace] = DEBIT_PAID;
            debitAmounts[trace] = amount;
            debitAccounts[trace] = account;
        }

        private void giveBack(int trace) {
            int account = debitAccounts[trace];
            if (isAccount(account)) {
                balances[account] += debitAmounts[trace];
                takenOff -= debitAmounts[trace];
            }
        }

        private static boolean isAccount(int account) {
            return isWithin(account, 0, ACCOUNTS - 1);
        }
    }

    /** The notes of the machine, wherever they are, and how an amount is mixed of them. */
    private static final class Notes {
        private final int[] denominations = FIRST_DENOMINATIONS.clone();
        private final int[] inCassette = new int[CASSETTES];
        private final int[] inStacker = new int[CASSETTES];
        private final int[] inTray = new int[CASSETTES];
        private final int[] inBin = new int[CASSETTES];
        /** Worths are kept apart: a cassette may have another denomination by the time they are told. */
        private int stackerWorth;
        private int trayWorth;
        private long everInTray;

        private final int[] mixed = new int[CASSETTES];
        private int fewest;
        private int largest;

        boolean fill(int cassette, int denomination, int notes) {
            if (!isCassette(cassette) || !isWithin(denomination, 1, LARGEST_DENOMINATION)
                    || !isWithin(notes, 0, MOST_LOADED)) {
                return false;
            }
            denominations[cassette] = denomination;
            inCassette[cassette] = notes;
            return true;
        }

        int tell(int cassette, int what) {
            if (!isCassette(cassette)) {
                return NONE;
            }
            switch (what) {
                case 0:
                    return denominations[cassette];
                case 1:
                    return inCassette[cassette];
                case 2:
                    return inStacker[cassette];
                case 3:
                    return inTray[cassette];
                case 4:
                    return inBin[cassette];
                default:
                    return NONE;
            }
        }

        int mixedOf(int amount, int cassette) {
            if (!isCassette(cassette) || !findMix(amount)) {
                return NONE;
            }
            return mixed[cassette];
        }

        /** Counts go down, so that of ways with as few notes the first found is the one that is due. */
        boolean findMix(int amount) {
            fewest = MOST_MIXED + 1;
            if (!isAmount(amount)) {
                return false;
            }
            findLargest();
            for (int first = mostOf(0, amount, MOST_MIXED); first >= 0; first--) {
                int afterFirst = amount - first * denominations[0];
                int room = fewest - 1 - first;
                for (int second = mostOf(1, afterFirst, room); second >= 0; second--) {
                    mixRest(first, second, afterFirst - second * denominations[1]);
                }
            }
            return fewest <= MOST_MIXED;
        }

        private void mixRest(int first, int second, int amount) {
            int worth = denominations[3];
            for (int third = mostOf(2, amount, fewest - 1 - first - second); third >= 0; third--) {
                int rest = amount - third * denominations[2];
                int fourth = worth < 1 ? 0 : rest / worth;
                int all = first + second + third + fourth;
                if (fourth * worth == rest && fourth <= inCassette[3] && all < fewest) {
                    fewest = all;
                    mixed[0] = first;
                    mixed[1] = second;
                    mixed[2] = third;
                    mixed[3] = fourth;
                }
            }
        }

        private void findLargest() {
            largest = 0;
            for (int c = 0; c < CASSETTES; c++) {
                largest = Math.max(largest, denominations[c]);
            }
        }

        /** NONE when so few notes cannot be worth the amount, which spares a search in vain. */
        private int mostOf(int cassette, int amount, int room) {
            if (cassette < 0 || cassette >= CASSETTES || room < 0 || amount > room * largest) {
                return NONE;
            }
            int worth = denominations[cassette];
            int needed = worth < 1 ? 0 : amount / worth;
            int there = inCassette[cassette] < room ? inCassette[cassette] : room;
            return needed < there ? needed : there;
        }

        void stackOne(int cassette) {
            if (isCassette(cassette) && inCassette[cassette] > 0) {
                inCassette[cassette]--;
                inStacker[cassette]++;
                stackerWorth += denominations[cassette];
            }
        }

        boolean areStacked() {
            boolean some = false;
            for (int c = 0; c < CASSETTES; c++) {
                some = some || inStacker[c] > 0;
            }
            return some;
        }

        void moveStackerToTray() {
            emptyStackerInto(inTray);
            trayWorth += stackerWorth;
            everInTray += stackerWorth;
            stackerWorth = 0;
        }

        void moveStackerToBin() {
            emptyStackerInto(inBin);
            stackerWorth = 0;
        }

        private void emptyStackerInto(int[] place) {
            for (int c = 0; c < CASSETTES && c < place.length; c++) {
                place[c] += inStacker[c];
                inStacker[c] = 0;
            }
        }

        int clearTray() {
            int worth = trayWorth;
            Arrays.fill(inTray, 0);
            trayWorth = 0;
            return worth;
        }

        private static boolean isCassette(int cassette) {
            return cassette >= 0 && cassette < CASSETTES;
        }
    }

    /** The records, which stay when the power is off. */
    private static final class Journal {
        private static final int BEGUN = 1;
        private static final int GRANTED = 2;
        private static final int PAID = 3;
        private static final int REVERSING = 4;
        private static final int REVERSED = 5;
        private static final int REFUSED = 6;

        private final int[] kinds = new int[MOST_RECORDS];
        private final int[] traces = new int[MOST_RECORDS];
        private final int[] amounts = new int[MOST_RECORDS];
        private final int[] cards = new int[MOST_RECORDS];
        private int size;

        boolean isFull() {
            return size >= MOST_RECORDS;
        }

        void add(int kind, int trace, int amount, int card) {
            if (isFull()) {
                return;
            }
            kinds[size] = kind;
            traces[size] = trace;
            amounts[size] = amount;
            cards[size] = card;
            size++;
        }

        int tell(int k, int what) {
            if (!isWithin(k, 0, size - 1)) {
                return NONE;
            }
            switch (what) {
                case 0:
                    return kinds[k];
                case 1:
                    return traces[k];
                case 2:
                    return amounts[k];
                case 3:
                    return cards[k];
                default:
                    return NONE;
            }
        }

        int lastKind() {
            return tell(size - 1, 0);
        }

        int lastBegun() {
            for (int k = size - 1; k >= 0; k--) {
                if (tell(k, 0) == BEGUN) {
                    return k;
                }
            }
            return NONE;
        }
    }

    /** The cash machine: whatever it does in steps stops where the power goes. */
    private static final class Machine {
        private static final int NO_CARD = 0;
        private static final int CARD_IN = 1;
        private static final int PIN_SENT = 2;
        private static final int OPEN = 3;
        private static final int DEBIT_SENT = 4;
        private static final int REVERSAL_SENT = 5;

        private final Line line;
        private final Notes notes = new Notes();
        private final Journal journal = new Journal();
        private final boolean[] kept = new boolean[CARDS];
        private boolean on = true;
        private int stepsLeft = NONE;
        private int phase = NO_CARD;
        private int slot = NONE;
        private int nextTrace = 1;
        private int openings;
        private int openingsWhenBegun;
        private int dropped;

        private int traceAtHand;
        private int cardAtHand = NONE;
        private int amountAtHand;

        Machine(Line line) {
            this.line = line;
        }

        boolean fillCassette(int cassette, int denomination, int number) {
            return on && phase != DEBIT_SENT && notes.fill(cassette, denomination, number);
        }

        boolean putCardIn(int card) {
            if (!on || phase != NO_CARD || !isCard(card) || kept[card]) {
                return false;
            }
            slot = card;
            phase = CARD_IN;
            return true;
        }

        boolean giveCardBack() {
            if (!on || (phase != CARD_IN && phase != OPEN)) {
                return false;
            }
            endWithoutCard();
            return true;
        }

        int keptOf(int card) {
            if (!isCard(card)) {
                return NONE;
            }
            return kept[card] ? 1 : 0;
        }

        boolean beginPinCheck(int pin) {
            if (!on || phase != CARD_IN || !isPin(pin) || nextTrace > LAST_TRACE) {
                return false;
            }
            takeTrace();
            if (send(KIND_PIN, pin)) {
                phase = PIN_SENT;
            }
            return true;
        }

        int beginWithdrawal(int amount) {
            if (!on || phase != OPEN || !isAmount(amount)
                    || journal.size > MOST_RECORDS_TO_ASK || nextTrace > LAST_TRACE) {
                return NONE;
            }
            if (!notes.findMix(amount)) {
                return 0;
            }
            takeTrace();
            amountAtHand = amount;
            if (write(Journal.BEGUN)) {
                openingsWhenBegun = openings;
                if (send(KIND_DEBIT, amount)) {
                    phase = DEBIT_SENT;
                }
            }
            return 1;
        }

        boolean endWaiting() {
            if (!on) {
                return false;
            }
            switch (phase) {
                case PIN_SENT:
                    endWithoutCard();
                    return true;
                case DEBIT_SENT:
                    reverse(true);
                    return true;
                case REVERSAL_SENT:
                    send(KIND_REVERSAL, amountAtHand);
                    return true;
                default:
                    return false;
            }
        }

        void receive(Letter letter) {
            if (!on) {
                return;
            }
            if (!letter.isSound() || !isAwaited(letter)) {
                dropped++;
                return;
            }
            switch (phase) {
                case PIN_SENT:
                    endPinCheck(letter.code());
                    break;
                case DEBIT_SENT:
                    if (letter.code() == CODE_DONE) {
                        payOut();
                    } else if (write(Journal.REFUSED)) {
                        phase = OPEN;
                    }
                    break;
                default:
                    if (write(Journal.REVERSED)) {
                        phase = NO_CARD;
                    }
                    break;
            }
        }

        private boolean isAwaited(Letter letter) {
            if (letter.trace() != traceAtHand) {
                return false;
            }
            switch (phase) {
                case PIN_SENT:
                    return letter.kind() == KIND_PIN + ANSWER;
                case DEBIT_SENT:
                    return letter.kind() == KIND_DEBIT + ANSWER;
                case REVERSAL_SENT:
                    return letter.kind() == KIND_REVERSAL + ANSWER;
                default:
                    return false;
            }
        }

        private void endPinCheck(int code) {
            if (code == CODE_DONE) {
                phase = OPEN;
            } else if (code == CODE_KEEP) {
                if (isCard(slot)) {
                    kept[slot] = true;
                }
                endWithoutCard();
            } else {
                phase = CARD_IN;
            }
        }

        private void payOut() {
            if (!write(Journal.GRANTED) || !notes.findMix(amountAtHand) || !stackMix()) {
                return;
            }
            if (!mayStep()) {
                return;
            }
            notes.moveStackerToTray();
            openings++;
            if (write(Journal.PAID)) {
                phase = OPEN;
            }
        }

        private boolean stackMix() {
            for (int c = 0; c < CASSETTES; c++) {
                for (int n = 0; n < notes.mixed[c]; n++) {
                    if (!mayStep()) {
                        return false;
                    }
                    notes.stackOne(c);
                }
            }
            return true;
        }

        /** Without its record when one is in the journal already, from before the power went. */
        private void reverse(boolean withRecord) {
            if (withRecord && !write(Journal.REVERSING)) {
                return;
            }
            if (notes.areStacked()) {
                if (!mayStep()) {
                    return;
                }
                notes.moveStackerToBin();
            }
            if (send(KIND_REVERSAL, amountAtHand)) {
                slot = NONE;
                phase = REVERSAL_SENT;
            }
        }

        boolean switchOff() {
            if (!on) {
                return false;
            }
            on = false;
            return true;
        }

        boolean allowSteps(int n) {
            if (!on || !isWithin(n, 0, MOST_ARMED)) {
                return false;
            }
            stepsLeft = n;
            return true;
        }

        boolean switchOn() {
            if (on) {
                return false;
            }
            on = true;
            stepsLeft = NONE;
            endWithoutCard();
            recallLastBegun();
            switch (journal.lastKind()) {
                case Journal.BEGUN:
                    reverse(true);
                    break;
                case Journal.GRANTED:
                case Journal.REVERSING:
                    if (openings > openingsWhenBegun) {
                        write(Journal.PAID);
                    } else {
                        reverse(journal.lastKind() == Journal.GRANTED);
                    }
                    break;
                default:
                    break;
            }
            return true;
        }

        private void recallLastBegun() {
            int k = journal.lastBegun();
            if (k != NONE) {
                traceAtHand = journal.tell(k, 1);
                amountAtHand = journal.tell(k, 2);
                cardAtHand = journal.tell(k, 3);
            }
        }

        private void endWithoutCard() {
            slot = NONE;
            phase = NO_CARD;
        }

        private void takeTrace() {
            traceAtHand = nextTrace;
            cardAtHand = slot;
            nextTrace++;
        }

        /** Whether the power stays for one step more; if not, it is off now. */
        private boolean mayStep() {
            if (stepsLeft == 0) {
                on = false;
            } else if (stepsLeft > 0) {
                stepsLeft--;
            }
            return on;
        }

        /** A full journal takes no record and costs no step, and the machine goes on. */
        private boolean write(int kind) {
            if (journal.isFull()) {
                return true;
            }
            if (!mayStep()) {
                return false;
            }
            journal.add(kind, traceAtHand, amountAtHand, cardAtHand);
            return true;
        }

        private boolean send(int kind, int value) {
            if (!mayStep()) {
                return false;
            }
            line.post(true, kind, traceAtHand, cardAtHand, value, 0);
            return true;
        }
    }
}
