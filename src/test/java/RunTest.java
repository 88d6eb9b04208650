import java.util.function.Supplier;

/** Promise 6; what a CYCLE does stands in CycleTest. */
public final class RunTest {
    private static final Check CHECK = new Check();

    public static void main(String[] args) {
        doesAsManyCycles();
        refusesBadNumbers();
        isMissingBeforeItsCycle();
        isMissingOnlyWhenItsTurnComes();
        keepsWhatWasDoneBeforeMissing();
        keepsWhatWasDoneBeforeOutside();
        answersTheWordAtHand();
        isTheSameInPieces();
        CHECK.end();
    }

    /** "n CYCLES (1 .. 500)." */
    private static void doesAsManyCycles() {
        for (int n : new int[] {1, 2, 3, 255, 256, 257, 499, 500}) {
            MicroMachine x = Check.machine("H=H+1;g0");
            CHECK.due("run " + n, x.run(n), 0);
            CHECK.due("H behind " + n, x.register(8), n);
            CHECK.due("cycles behind " + n, x.count(4), n);
        }
    }

    private static void refusesBadNumbers() {
        for (int n : new int[] {0, -1, 501, 502, -500, 65537, Check.LOWEST, Check.HIGHEST}) {
            CHECK.refusedWithoutTrace("run " + n, Check.BAD, Busy::machine, x -> x.run(n));
            CHECK.refusedWithoutTrace("run " + n + ", no word", Check.BAD, Busy::machineAtNothing, x -> x.run(n));
            CHECK.refusedWithoutTrace("run " + n + ", outside", Check.BAD, () -> Busy.machineAt("A=-1;r"), x -> x.run(n));
        }
    }

    /** "The WORD at hand isn't there: missing, before its CYCLE." */
    private static void isMissingBeforeItsCycle() {
        for (int n : new int[] {1, 2, 500}) {
            CHECK.refusedWithoutTrace("run " + n, Check.MISSING, Busy::machineAtNothing, x -> x.run(n));
            CHECK.refusedWithoutTrace("run " + n + " at first", Check.MISSING, MicroMachine::new, x -> x.run(n));
        }
        MicroMachine x = Busy.machineAtNothing();
        CHECK.refused("run", Check.MISSING, () -> x.run(1));
        x.word(40);
        Check.word(x, 1, "C=D");
        x.run(1);
        CHECK.due("what is to come waits", x.register(1), 22);
        CHECK.due("what is to come waits", x.register(9), 207);
        CHECK.due("it came behind the VALUE", x.register(5), 2048);
    }

    private static void isMissingOnlyWhenItsTurnComes() {
        MicroMachine x = Check.machine("S=1", "S=S+1", "S=S+1");
        CHECK.due("run 3", x.run(3), 3);
        CHECK.refused("run 1 more", Check.MISSING, () -> x.run(1));
        CHECK.due("S", x.register(3), 3);
        CHECK.due("cycles", x.count(4), 3);
        MicroMachine y = Check.machine("g63");
        CHECK.due("to where nothing is", y.run(1), 63);
        CHECK.refused("from there", Check.MISSING, () -> y.run(500));
        CHECK.due("at hand", y.count(3), 63);
    }

    /** The run ends so, and leaves the machine as one that was told to do just the CYCLES before. */
    private static void endsBehind(String what, Class<? extends RuntimeException> end, Supplier<MicroMachine> maker, int cycles) {
        for (int n : new int[] {cycles + 1, cycles + 2, 500}) {
            MicroMachine x = maker.get();
            MicroMachine twin = maker.get();
            CHECK.refused(what + ": run " + n, end, () -> x.run(n));
            twin.run(cycles);
            CHECK.alike(what + ": run " + n, x, twin);
        }
    }

    /** "All done before such an end stays." */
    private static void keepsWhatWasDoneBeforeMissing() {
        endsBehind("missing", Check.MISSING, () -> begun("S=1;f", "P=S;f;r", "D=H+1;w", "C=D;r"), 4);
        endsBehind("missing behind asking", Check.MISSING, () -> begun("S=1;f", "A=S;f;r"), 2);
        endsBehind("missing late", Check.MISSING, () -> begun("S=1<", "S=S-1;r;z2,1"), 257);
        MicroMachine x = begun("S=1;f", "A=S;f;r");
        CHECK.refused("run", Check.MISSING, () -> x.run(9));
        CHECK.due("at hand", x.count(3), 2);
        CHECK.due("cycles", x.count(4), 2);
        CHECK.due("to come", x.count(5) + 10 * x.count(6), 11);
    }

    private static void keepsWhatWasDoneBeforeOutside() {
        endsBehind("outside", Check.OUTSIDE, () -> begun("S=1;f", "P=S;f;r", "D=H+1;w", "A=P=C=-1;r"), 3);
        endsBehind("A counted up", Check.OUTSIDE, () -> begun("D=A=S=S+1;w;g0"), 63);
        endsBehind("P counted down", Check.OUTSIDE, RunTest::countingDown, 64);
        CHECK.refusedWithoutTrace("outside at once", Check.OUTSIDE, () -> begun("P=S=S-1;f;g0"), x -> x.run(500));
    }

    private static MicroMachine countingDown() {
        MicroMachine x = begun("P=S=S-1;f;g0");
        x.set(3, 64);
        return x;
    }

    private static MicroMachine begun(String... texts) {
        MicroMachine x = Check.machine(texts);
        x.set(8, 41);
        for (int i = 0; i < 4; i++) {
            x.poke(i, 100 + i);
            x.code(i, 200 + i);
        }
        Check.type(x, "D=H+1");
        return x;
    }

    /** "Answers the WORD at hand then.", be it there or not. */
    private static void answersTheWordAtHand() {
        for (int i = 0; i < 64; i++) {
            MicroMachine x = Check.machine("g" + i);
            CHECK.due("run 1", x.run(1), i);
            CHECK.due("at hand", x.count(3), i);
        }
        MicroMachine x = Check.machine("g1", "g2", "g0");
        CHECK.due("run 500", x.run(500), 2);
        CHECK.due("run 499", x.run(499), 0);
    }

    private static void isTheSameInPieces() {
        int[][] pieces = {{1, 1}, {2, 1}, {7, 13}, {99, 1}, {250, 250}};
        for (int[] piece : pieces) {
            MicroMachine x = toAndFro();
            MicroMachine twin = toAndFro();
            x.run(piece[0] + piece[1]);
            twin.run(piece[0]);
            twin.run(piece[1]);
            CHECK.alike("in two pieces", x, twin);
        }
    }

    /** Adds bytes of CODE to words of MEMORY, at places 0 and 1 by turns. */
    private static MicroMachine toAndFro() {
        return begun("A=P=S;f;r", "H=D", "D=H+U;w", "T=S;z4,5", "S=1;g0", "S=0;g0");
    }
}
