import java.util.Random;

/** Promise 20: mix, against a search that tries every way there is. */
final class MixTest {
    private static final Expect e = new Expect();

    public static void main(String[] args) {
        refuses();
        fewestThenFirstCassettes();
        atMostForty();
        againstEveryWay();
        e.end();
    }

    private static void dueMix(AutoTeller x, int amount, int... want) {
        for (int c = 0; c < 4; c++) {
            e.due("mix(" + amount + ", " + c + ")", want[c], x.mix(amount, c));
        }
    }

    private static AutoTeller loaded(int... denominationsAndNotes) {
        AutoTeller x = new AutoTeller();
        for (int c = 0; c < 4; c++) {
            x.load(c, denominationsAndNotes[2 * c], denominationsAndNotes[2 * c + 1]);
        }
        return x;
    }

    private static void refuses() {
        AutoTeller x = loaded(1, 200, 10, 200, 100, 200, 1000, 200);
        for (int bad : new int[] {-1, 4, Integer.MAX_VALUE, Integer.MIN_VALUE}) {
            e.due("mix(1, " + bad + ")", -1, x.mix(1, bad));
        }
        for (int bad : new int[] {0, -1, -10, 40001, Integer.MAX_VALUE, Integer.MIN_VALUE}) {
            dueMix(x, bad, -1, -1, -1, -1);
        }
        dueMix(x, 1, 1, 0, 0, 0);
        dueMix(x, 40000, 0, 0, 0, 40);
    }

    private static void fewestThenFirstCassettes() {
        dueMix(loaded(10, 5, 20, 5, 50, 1, 100, 2), 180, 1, 1, 1, 1);
        dueMix(loaded(20, 10, 50, 10, 100, 0, 1, 0), 60, 3, 0, 0, 0);
        dueMix(loaded(20, 10, 50, 10, 100, 0, 1, 0), 110, 3, 1, 0, 0);
        dueMix(loaded(20, 10, 50, 10, 100, 0, 1, 0), 30, -1, -1, -1, -1);
        dueMix(loaded(10, 3, 10, 3, 10, 3, 10, 3), 70, 3, 3, 1, 0);
        dueMix(loaded(10, 3, 10, 3, 10, 3, 10, 3), 100, 3, 3, 3, 1);
        dueMix(loaded(10, 3, 10, 3, 10, 3, 10, 3), 130, -1, -1, -1, -1);
        // 30 + 30, 10 + 50 and 20 + 40 are two notes each
        dueMix(loaded(30, 9, 10, 9, 50, 9, 7, 9), 60, 2, 0, 0, 0);
        dueMix(loaded(10, 9, 30, 9, 50, 9, 7, 9), 60, 1, 0, 1, 0);
        dueMix(loaded(7, 9, 20, 9, 30, 9, 40, 9), 60, 0, 1, 0, 1);
        dueMix(loaded(7, 9, 90, 9, 20, 9, 40, 9), 60, 0, 0, 1, 1);
        dueMix(loaded(7, 9, 90, 9, 20, 9, 30, 9), 60, 0, 0, 0, 2);
        // fewest goes before the most of cassette 0
        dueMix(loaded(1, 200, 25, 9, 10, 9, 100, 9), 30, 0, 0, 3, 0);
    }

    private static void atMostForty() {
        dueMix(loaded(10, 200, 1, 0, 1, 0, 1, 0), 400, 40, 0, 0, 0);
        dueMix(loaded(10, 200, 1, 0, 1, 0, 1, 0), 410, -1, -1, -1, -1);
        dueMix(loaded(1, 200, 1, 200, 1, 200, 1, 200), 40, 40, 0, 0, 0);
        dueMix(loaded(1, 200, 1, 200, 1, 200, 1, 200), 41, -1, -1, -1, -1);
        dueMix(loaded(1, 10, 1, 10, 1, 10, 1, 10), 40, 10, 10, 10, 10);
        dueMix(loaded(1, 10, 1, 10, 1, 10, 1, 11), 41, -1, -1, -1, -1);
        dueMix(loaded(1, 200, 2, 200, 3, 200, 1000, 39), 39001, 1, 0, 0, 39);
        dueMix(loaded(1, 200, 2, 200, 3, 200, 1000, 39), 39005, -1, -1, -1, -1);
    }

    private static void againstEveryWay() {
        Random random = new Random(20);
        for (int round = 0; round < 3000; round++) {
            int[] worth = new int[4];
            int[] notes = new int[4];
            AutoTeller x = new AutoTeller();
            int step = round % 3 == 0 ? 1 : 5;
            for (int c = 0; c < 4; c++) {
                worth[c] = step * (1 + random.nextInt(round % 2 == 0 ? 8 : 60));
                notes[c] = random.nextInt(round % 5 == 0 ? 201 : 9);
                x.load(c, worth[c], notes[c]);
            }
            int amount = step * (1 + random.nextInt(120));
            dueMix(x, amount, everyWay(worth, notes, amount));
        }
    }

    /** Looks at all ways, the worst of each tie first. */
    private static int[] everyWay(int[] worth, int[] notes, int amount) {
        int[] best = {-1, -1, -1, -1};
        int fewest = 41;
        for (int a = 0; a <= Math.min(40, notes[0]); a++) {
            for (int b = 0; b <= Math.min(40 - a, notes[1]); b++) {
                for (int c = 0; c <= Math.min(40 - a - b, notes[2]); c++) {
                    for (int d = 0; d <= Math.min(40 - a - b - c, notes[3]); d++) {
                        int all = a + b + c + d;
                        int sum = a * worth[0] + b * worth[1] + c * worth[2] + d * worth[3];
                        if (sum > amount) {
                            break;
                        }
                        if (sum == amount && all <= fewest) {
                            fewest = all;
                            best = new int[] {a, b, c, d};
                        }
                    }
                }
            }
        }
        return best;
    }
}
