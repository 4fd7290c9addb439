/**
 * Each call that may be refused, in each phase and with the power off in each phase: done where the document
 * lets it, else refused with nothing changed.
 */
final class PhaseTest {
    private static final Expect e = new Expect();
    private static final Expect.State[] PHASES = {
        Setup::ready, Setup::inserted, Setup::pinSent, Setup::open, () -> Setup.asked(100), () -> Setup.reversing(100),
    };

    public static void main(String[] args) {
        phasesAreAsNamed();
        dueIn("load(0, 20, 7)", "01235", 0, x -> Expect.bit(x.load(0, 20, 7)));
        dueIn("insert(1)", "0", 0, x -> Expect.bit(x.insert(1)));
        dueIn("pin(1234)", "1", 0, x -> Expect.bit(x.pin(1234)));
        dueIn("ask(10)", "3", AutoTeller.NONE, x -> x.ask(10));
        dueIn("eject()", "13", 0, x -> Expect.bit(x.eject()));
        dueIn("timeout()", "245", 0, x -> Expect.bit(x.timeout()));
        dueIn("cut()", "012345", 0, x -> Expect.bit(x.cut()));
        dueIn("arm(3)", "012345", 0, x -> Expect.bit(x.arm(3)));
        powerIsRefusedWhileOn();
        cutTakesThePowerAlone();
        powerBringsTheCardOut();
        askWithoutMix();
        whatGoesInAnyPhase();
        e.end();
    }

    private static Expect.State off(Expect.State on) {
        return () -> {
            AutoTeller x = on.make();
            x.cut();
            return x;
        };
    }

    private static void phasesAreAsNamed() {
        for (int phase = 0; phase < PHASES.length; phase++) {
            e.dueAnswer("count(1)", PHASES[phase], x -> x.count(1), phase);
            e.dueAnswer("count(1) while off", off(PHASES[phase]), x -> x.count(1), AutoTeller.NONE);
            int card = phase == 0 || phase == 5 ? AutoTeller.NONE : 0;
            e.dueAnswer("count(2) in phase " + phase, PHASES[phase], x -> x.count(2), card);
            e.dueAnswer("count(2), off in phase " + phase, off(PHASES[phase]), x -> x.count(2), card);
        }
    }

    private static void dueIn(String name, String phases, int refusal, Expect.Call call) {
        for (int phase = 0; phase < PHASES.length; phase++) {
            String where = name + " in phase " + phase;
            if (phases.indexOf((char) ('0' + phase)) >= 0) {
                e.dueAnswer(where, PHASES[phase], call, 1);
            } else {
                e.dueNothingDone(where, PHASES[phase], call, refusal);
            }
            e.dueNothingDone(name + ", off in phase " + phase, off(PHASES[phase]), call, refusal);
        }
    }

    private static void powerIsRefusedWhileOn() {
        for (int phase = 0; phase < PHASES.length; phase++) {
            e.dueNothingDone("power() in phase " + phase, PHASES[phase], x -> Expect.bit(x.power()), 0);
            e.dueAnswer("power(), off in phase " + phase, off(PHASES[phase]), x -> Expect.bit(x.power()), 1);
        }
    }

    /** Cassettes, stacker, tray, bin, slot, journal, next trace and OPENINGS stay, and so do letters and books. */
    private static void cutTakesThePowerAlone() {
        for (int phase = 0; phase < PHASES.length; phase++) {
            String on = Look.at(PHASES[phase].make());
            String want = on.replace("count(0) = 1", "count(0) = 0").replace("count(1) = " + phase, "count(1) = -1");
            e.dueLook("cut() in phase " + phase, want, Look.at(off(PHASES[phase]).make()));
        }
        AutoTeller x = Setup.answered(180);
        x.arm(4);
        x.deliver(0);
        AutoTeller twin = Setup.answered(180);
        twin.arm(4);
        twin.deliver(0);
        e.due("cut() when the armed power is off", false, x.cut());
        e.dueLook("notes in the stacker stay", Look.at(twin), Look.at(x));
    }

    /** Without a withdrawal in the journal nothing but the card and the phase changes. */
    private static void powerBringsTheCardOut() {
        for (int phase = 0; phase < 4; phase++) {
            AutoTeller x = off(PHASES[phase]).make();
            x.power();
            String want = Look.at(PHASES[phase].make()).replace("count(1) = " + phase, "count(1) = 0")
                    .replace("count(2) = 0", "count(2) = -1");
            e.dueLook("power() after phase " + phase, want, Look.at(x));
        }
    }

    /** NONE is looked at before the mix: only in phase 3 is it told that there is none. */
    private static void askWithoutMix() {
        for (int phase = 0; phase < PHASES.length; phase++) {
            int want = phase == 3 ? 0 : AutoTeller.NONE;
            e.dueNothingDone("ask(5) in phase " + phase, PHASES[phase], x -> x.ask(5), want);
            e.dueNothingDone("ask(5), off in phase " + phase, off(PHASES[phase]), x -> x.ask(5), AutoTeller.NONE);
        }
    }

    private static void whatGoesInAnyPhase() {
        for (Expect.State phase : PHASES) {
            for (Expect.State state : new Expect.State[] {phase, off(phase)}) {
                e.dueAnswer("account(1, 5)", state, x -> Expect.bit(x.account(1, 5)), 1);
                e.dueAnswer("card(1, 1, 5)", state, x -> Expect.bit(x.card(1, 1, 5)), 1);
                e.dueNothingDone("take() of an empty tray", state, x -> x.take(), 0);
                e.dueNothingDone("mix(80, 1)", state, x -> x.mix(80, 1), 1);
                e.dueNothingDone("mix(5, 0), none", state, x -> x.mix(5, 0), AutoTeller.NONE);
            }
        }
    }
}
