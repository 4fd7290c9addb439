import java.util.Random;

/** Runs of 512 calls, the same ones on the class and on the model of the document: every answer is the same. */
final class ModelTest {
    private static final Expect e = new Expect();
    private static final int RUNS = 3000;
    private static final int CALLS = 512;
    private static final Op[] OPS = Op.values();
    private static final int[] ODD = {
        -1, 0, 1, 2, 3, 4, 7, 8, 12, 13, 15, 16, 23, 24, 25, 100, 101, 200, 201, 255, 256, 1000, 1001, 9999, 10000,
        40000, 40001, 1000000000, 1000000001, Integer.MAX_VALUE, Integer.MIN_VALUE, Integer.MIN_VALUE + 1,
    };

    private interface Answer<T> {
        long answer(T object, int a, int b, int c);
    }

    /** Each call of the face; arguments that it does not have are not looked at. */
    private enum Op {
        ACCOUNT((x, a, b, c) -> bit(x.account(a, b)), (m, a, b, c) -> bit(m.account(a, b))),
        CARD((x, a, b, c) -> bit(x.card(a, b, c)), (m, a, b, c) -> bit(m.card(a, b, c))),
        LOAD((x, a, b, c) -> bit(x.load(a, b, c)), (m, a, b, c) -> bit(m.load(a, b, c))),
        INSERT((x, a, b, c) -> bit(x.insert(a)), (m, a, b, c) -> bit(m.insert(a))),
        PIN((x, a, b, c) -> bit(x.pin(a)), (m, a, b, c) -> bit(m.pin(a))),
        ASK((x, a, b, c) -> x.ask(a), (m, a, b, c) -> m.ask(a)),
        EJECT((x, a, b, c) -> bit(x.eject()), (m, a, b, c) -> bit(m.eject())),
        TAKE((x, a, b, c) -> x.take(), (m, a, b, c) -> m.take()),
        TIMEOUT((x, a, b, c) -> bit(x.timeout()), (m, a, b, c) -> bit(m.timeout())),
        DELIVER((x, a, b, c) -> x.deliver(a), (m, a, b, c) -> m.deliver(a)),
        TWICE((x, a, b, c) -> x.twice(a), (m, a, b, c) -> m.twice(a)),
        LOSE((x, a, b, c) -> x.lose(a), (m, a, b, c) -> m.lose(a)),
        POKE((x, a, b, c) -> bit(x.poke(a, b, c)), (m, a, b, c) -> bit(m.poke(a, b, c))),
        LETTER((x, a, b, c) -> x.letter(a, b), (m, a, b, c) -> m.letter(a, b)),
        CUT((x, a, b, c) -> bit(x.cut()), (m, a, b, c) -> bit(m.cut())),
        ARM((x, a, b, c) -> bit(x.arm(a)), (m, a, b, c) -> bit(m.arm(a))),
        POWER((x, a, b, c) -> bit(x.power()), (m, a, b, c) -> bit(m.power())),
        CASSETTE((x, a, b, c) -> x.cassette(a, b), (m, a, b, c) -> m.cassette(a, b)),
        MIX((x, a, b, c) -> x.mix(a, b), (m, a, b, c) -> m.mix(a, b)),
        BALANCE((x, a, b, c) -> x.balance(a), (m, a, b, c) -> m.balance(a)),
        OF_CARD((x, a, b, c) -> x.ofCard(a, b), (m, a, b, c) -> m.ofCard(a, b)),
        RECORD((x, a, b, c) -> x.record(a, b), (m, a, b, c) -> m.record(a, b)),
        COUNT((x, a, b, c) -> x.count(a), (m, a, b, c) -> m.count(a));

        final Answer<AutoTeller> onClass;
        final Answer<Model> onModel;

        Op(Answer<AutoTeller> onClass, Answer<Model> onModel) {
            this.onClass = onClass;
            this.onModel = onModel;
        }

        static long bit(boolean answer) {
            return Expect.bit(answer);
        }
    }

    private final AutoTeller x = new AutoTeller();
    private final Model model = new Model();
    private final Random random;
    private final int seed;
    /** Of a slow line few letters come, so that it becomes full. */
    private final boolean slowLine;
    private int calls;

    private ModelTest(int seed) {
        this.seed = seed;
        random = new Random(seed);
        slowLine = seed % 4 == 0;
    }

    public static void main(String[] args) {
        for (int seed = 0; seed < RUNS; seed++) {
            new ModelTest(seed).run();
        }
        e.end();
    }

    private void run() {
        call(Op.ACCOUNT, random.nextInt(2), random.nextInt(20000));
        call(Op.CARD, 0, 0, 0);
        call(Op.CARD, 1, random.nextInt(2), 1);
        call(Op.CARD, 15, 1, 9999);
        for (int c = 0; c < 4; c++) {
            call(Op.LOAD, c, denomination(), random.nextInt(60));
        }
        int busy = 30 + random.nextInt(CALLS - 30);
        while (calls < busy) {
            next();
        }
        lookAtAll();
    }

    /** As far as calls are left: counts, notes and books first, then the letters, then the records. */
    private void lookAtAll() {
        for (int k = 0; k < 20; k++) {
            call(Op.COUNT, k);
            call(Op.CASSETTE, k / 5, k % 5);
        }
        for (int k = 0; k < 8; k++) {
            call(Op.BALANCE, k);
        }
        for (int k = 0; k < 48; k++) {
            call(Op.OF_CARD, k / 3, k % 3);
        }
        for (int k = 0; k < 13 * model.count(6); k++) {
            call(Op.LETTER, k / 13, k % 13);
        }
        for (int k = 0; k < 4 * model.count(3); k++) {
            call(Op.RECORD, (int) model.count(3) - 1 - k / 4, k % 4);
        }
    }

    private int denomination() {
        return random.nextInt(3) == 0 ? 1 + random.nextInt(1000) : 5 * (1 + random.nextInt(20));
    }

    /** Mostly what leads on from here, so that all phases are seen; else anything. */
    private void next() {
        int choice = random.nextInt(100);
        int inFlight = (int) model.count(6);
        if (choice < 8) {
            call(OPS[random.nextInt(OPS.length)], odd(), odd(), odd());
        } else if (choice < 26) {
            look();
        } else if (choice < 30) {
            rare();
        } else if (choice < 36 && inFlight > 0) {
            disturb(random.nextInt(inFlight));
        } else if (choice < 40) {
            call(Op.ARM, random.nextInt(3) == 0 ? random.nextInt(60) : random.nextInt(8));
        } else if (inFlight > 0 && choice < (slowLine ? 50 : 75)) {
            call(random.nextInt(8) == 0 ? Op.TWICE : Op.DELIVER, random.nextInt(4) == 0 ? random.nextInt(inFlight) : inFlight - 1);
        } else {
            leadOn();
        }
    }

    private void leadOn() {
        switch ((int) model.count(1)) {
            case 0:
                call(Op.INSERT, random.nextInt(5) == 0 ? random.nextInt(16) : 15 * random.nextInt(2));
                break;
            case 1:
                call(Op.PIN, random.nextInt(6) == 0 ? random.nextInt(3) : model.count(2) == 15 ? 9999 : (int) model.count(2));
                break;
            case 3:
                call(random.nextInt(12) == 0 ? Op.EJECT : Op.ASK, 5 * (1 + random.nextInt(random.nextInt(6) == 0 ? 3000 : 80)));
                break;
            case 2:
            case 4:
            case 5:
                if (slowLine || random.nextInt(3) == 0) {
                    call(Op.TIMEOUT, 0);
                }
                break;
            default:
                call(Op.POWER, 0);
                break;
        }
    }

    private void rare() {
        switch (random.nextInt(6)) {
            case 0:
                call(Op.ACCOUNT, random.nextInt(2), random.nextInt(5000));
                break;
            case 1:
                call(Op.CARD, 15 * random.nextInt(2), random.nextInt(2), random.nextInt(2) * 9999);
                break;
            case 2:
            case 3:
                call(Op.LOAD, random.nextInt(4), denomination(), random.nextInt(60));
                break;
            case 4:
                call(Op.CUT, 0);
                break;
            default:
                call(Op.TAKE, 0);
                break;
        }
    }

    /** A letter is lost, or changed: with a check that tells it, or with one that is right for it. */
    private void disturb(int i) {
        int choice = random.nextInt(4);
        if (choice == 0) {
            call(Op.LOSE, i);
            return;
        }
        int k = random.nextInt(3) == 0 ? 10 : random.nextInt(13);
        int mask = random.nextInt(3) == 0 ? 1 + random.nextInt(255) : 1 << random.nextInt(8);
        if (!call(Op.POKE, i, k, mask) || choice == 1) {
            return;
        }
        int[] bytes = model.bytesOf(i);
        int check = Setup.checkOf(bytes);
        poke(i, 11, bytes[11] ^ check / 256);
        poke(i, 12, bytes[12] ^ check % 256);
    }

    private void poke(int i, int k, int mask) {
        if (mask != 0) {
            call(Op.POKE, i, k, mask);
        }
    }

    private void look() {
        int card = random.nextInt(2) == 0 ? random.nextInt(16) : 15 * random.nextInt(2);
        switch (random.nextInt(8)) {
            case 0:
                call(Op.LETTER, random.nextInt(24), random.nextInt(13));
                break;
            case 1:
                call(Op.CASSETTE, random.nextInt(4), random.nextInt(5));
                break;
            case 2:
                call(Op.MIX, 1 + random.nextInt(400), random.nextInt(4));
                break;
            case 3:
                call(Op.BALANCE, random.nextInt(2));
                break;
            case 4:
                call(Op.OF_CARD, card, random.nextInt(3));
                break;
            case 5:
                call(Op.RECORD, random.nextInt(4) == 0 ? random.nextInt(100) : (int) model.count(3) - 1, random.nextInt(4));
                break;
            default:
                call(Op.COUNT, random.nextInt(11));
                break;
        }
    }

    private int odd() {
        return ODD[random.nextInt(ODD.length)];
    }

    /** The call on both; false when the object has had its 512 calls. */
    private boolean call(Op op, int a, int b, int c) {
        if (calls == CALLS) {
            return false;
        }
        calls++;
        String name = "run " + seed + ", call " + calls + ": " + op + " (" + a + ", " + b + ", " + c + ")";
        e.due(name, op.onModel.answer(model, a, b, c), op.onClass.answer(x, a, b, c));
        return true;
    }

    private boolean call(Op op, int a) {
        return call(op, a, 0, 0);
    }

    private boolean call(Op op, int a, int b) {
        return call(op, a, b, 0);
    }
}
