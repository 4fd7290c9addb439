import java.util.Random;

/**
 * Runs of any calls: nothing throws, no note and no money is lost, and in the end what is off the balances
 * has come to the tray. Letters are changed here only so that their check tells it.
 */
final class AnyCallsTest {
    private static final Expect e = new Expect();
    private static final int[] ODD = {
        -1, 0, 1, 2, 3, 4, 7, 8, 12, 13, 15, 16, 23, 24, 100, 101, 200, 201, 255, 256, 1000, 9999, 10000,
        40000, 40001, Integer.MAX_VALUE, Integer.MIN_VALUE, Integer.MIN_VALUE + 1,
    };

    public static void main(String[] args) {
        for (int seed = 0; seed < 6000; seed++) {
            oneRun(seed);
        }
        for (int seed = 0; seed < 3000; seed++) {
            oddCalls(new Random(seed));
        }
        e.end();
    }

    /** Notes that were ever loaded, less those that a new load put away, by cassette. */
    private final int[] loaded = new int[4];
    private final int[] taken = new int[4];
    private long takenWorth;
    private final AutoTeller x = new AutoTeller();
    private final Random random;

    private AnyCallsTest(int seed) {
        random = new Random(seed);
    }

    private static void oneRun(int seed) {
        AnyCallsTest t = new AnyCallsTest(seed);
        for (int card = 0; card < 4; card++) {
            t.x.card(card, card % 2, card);
        }
        t.x.account(0, 3000);
        t.x.account(1, 500);
        for (int c = 0; c < 4; c++) {
            t.fill(c);
        }
        for (int n = 0; n < 120; n++) {
            t.anyCall();
        }
        t.dueNotes("run " + seed);
        t.settle();
        e.due("run " + seed + ": phase in the end", true, t.x.count(1) != 4 && t.x.count(1) != 5);
        e.due("run " + seed + ": off the balances, and in the tray", t.x.count(9), t.x.count(10));
        e.due("run " + seed + ": of the balances", 3500 - t.x.count(10), t.x.balance(0) + t.x.balance(1));
        t.dueNotes("run " + seed + ", in the end");
    }

    private void anyCall() {
        int flying = (int) x.count(6);
        int i = flying == 0 ? 0 : random.nextInt(flying);
        switch (random.nextInt(20)) {
            case 0:
            case 1:
                x.insert(random.nextInt(4));
                break;
            case 2:
            case 3:
                x.pin(x.count(2) >= 0 && random.nextInt(6) > 0 ? (int) x.count(2) : 9);
                break;
            case 4:
            case 5:
            case 6:
                x.ask(10 * (1 + random.nextInt(30)));
                break;
            case 7:
                x.timeout();
                break;
            case 8:
                x.twice(i);
                break;
            case 9:
                x.lose(random.nextInt(3) == 0 ? i : -1);
                break;
            case 10:
                x.poke(i, random.nextInt(13), random.nextInt(6) == 0 ? 1 + random.nextInt(255) : 0);
                break;
            case 11:
                x.arm(random.nextInt(3) == 0 ? random.nextInt(12) : -1);
                break;
            case 12:
                x.power();
                break;
            case 13:
                takeNotes();
                break;
            case 14:
                rareCall();
                break;
            default:
                x.deliver(random.nextInt(3) == 0 ? i : 0);
                break;
        }
    }

    private void rareCall() {
        switch (random.nextInt(4)) {
            case 0:
                x.cut();
                break;
            case 1:
                x.eject();
                break;
            case 2:
                fill(random.nextInt(4));
                break;
            default:
                int card = random.nextInt(4);
                x.card(card, random.nextInt(2), card);
                break;
        }
    }

    private void fill(int c) {
        int notes = 5 + random.nextInt(30);
        int before = x.cassette(c, 1);
        if (x.load(c, 10 * (1 + random.nextInt(10)), notes)) {
            loaded[c] += notes - before;
        }
    }

    private void takeNotes() {
        for (int c = 0; c < 4; c++) {
            taken[c] += x.cassette(c, 3);
        }
        takenWorth += x.take();
    }

    private void dueNotes(String when) {
        for (int c = 0; c < 4; c++) {
            int all = taken[c] + x.cassette(c, 1) + x.cassette(c, 2) + x.cassette(c, 3) + x.cassette(c, 4);
            e.due(when + ": notes of cassette " + c, loaded[c], all);
        }
        takeNotes();
        e.due(when + ": worth of the notes taken", x.count(10), takenWorth);
    }

    /** The power stays, and letters come as they were sent. */
    private void settle() {
        x.power();
        x.arm(100);
        while (x.count(6) > 0) {
            x.deliver(0);
        }
        for (int n = 0; n < 3; n++) {
            x.timeout();
            while (x.count(6) > 0) {
                x.deliver(0);
            }
        }
    }

    private static int odd(Random random) {
        return ODD[random.nextInt(ODD.length)];
    }

    private static void oddCalls(Random r) {
        AutoTeller x = Setup.ready();
        for (int n = 0; n < 120; n++) {
            switch (r.nextInt(24)) {
                case 0: x.account(odd(r), (long) odd(r) * odd(r)); break;
                case 1: x.card(odd(r), odd(r), odd(r)); break;
                case 2: x.load(odd(r), odd(r), odd(r)); break;
                case 3: x.insert(odd(r)); break;
                case 4: x.pin(odd(r)); break;
                case 5: x.ask(odd(r)); break;
                case 6: x.eject(); break;
                case 7: x.take(); break;
                case 8: x.timeout(); break;
                case 9: x.deliver(odd(r)); break;
                case 10: x.twice(odd(r)); break;
                case 11: x.lose(odd(r)); break;
                case 12: x.poke(odd(r), odd(r), odd(r)); break;
                case 13: x.letter(odd(r), odd(r)); break;
                case 14: x.cut(); break;
                case 15: x.arm(odd(r)); break;
                case 16: x.power(); break;
                case 17: x.cassette(odd(r), odd(r)); break;
                case 18: x.mix(odd(r), odd(r)); break;
                case 19: x.balance(odd(r)); break;
                case 20: x.ofCard(odd(r), odd(r)); break;
                case 21: x.record(odd(r), odd(r)); break;
                case 22: x.count(odd(r)); break;
                default: anyLetter(x, r); break;
            }
        }
        e.due("count(6) after odd calls", true, x.count(6) <= 24);
    }

    /** A letter whose bytes are anything, with a check that is right. */
    private static void anyLetter(AutoTeller x, Random r) {
        if (x.count(6) > 0) {
            Setup.setByte(x, 0, r.nextInt(11), r.nextInt(4) == 0 ? r.nextInt(256) : r.nextInt(4));
            x.twice(0);
        }
    }
}
