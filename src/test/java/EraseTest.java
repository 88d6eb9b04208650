/** Promise 4. */
public final class EraseTest {
    private static final Check CHECK = new Check();

    public static void main(String[] args) {
        erases();
        erasesEveryWord();
        refusesMissing();
        refusesBadPlaces();
        leavesTheMachineThere();
        CHECK.end();
    }

    /** "WORD i is no more.", and all else stays. */
    private static void erases() {
        for (int i : new int[] {0, 63}) {
            MicroMachine x = Busy.machine("r;f", "");
            x.erase(i);
            CHECK.due("words", x.count(2), 4);
            CHECK.refused("told", Check.MISSING, () -> x.told(i, 0));
            Check.word(x, i, i == 0 ? "A=P=H;f;r" : "m12");
            CHECK.alike("erased and put again", x, Busy.machine("r;f", ""));
        }
        MicroMachine y = Busy.machine();
        y.erase(63);
        CHECK.due("the text stays", y.count(1), 5);
        CHECK.due("the place stays", y.count(0), 2);
    }

    private static void erasesEveryWord() {
        MicroMachine x = new MicroMachine();
        for (int i = 0; i < 64; i++) {
            Check.word(x, i, "g" + i);
        }
        for (int i = 0; i < 64; i++) {
            x.erase(i);
            CHECK.due("words", x.count(2), 63 - i);
            int next = Math.min(i + 1, 63);
            if (i < 63) {
                CHECK.due("the next one stays", x.told(next, 4), next);
            }
        }
    }

    /** "It isn't there: missing." */
    private static void refusesMissing() {
        for (int i : new int[] {4, 9, 62}) {
            CHECK.refusedWithoutTrace("erase " + i, Check.MISSING, Busy::machine, x -> x.erase(i));
        }
        MicroMachine x = Check.machine("g0");
        x.erase(0);
        CHECK.refused("erased twice", Check.MISSING, () -> x.erase(0));
        CHECK.due("words", x.count(2), 0);
        CHECK.due("there again", Check.word(x, 0, "r"), 1);
        CHECK.due("words", x.count(2), 1);
        x.erase(0);
        CHECK.due("words", x.count(2), 0);
        Check.type(x, "r;r");
        CHECK.refused("an unreadable word", Check.BAD, () -> x.word(0));
        CHECK.refused("is not there to erase", Check.MISSING, () -> x.erase(0));
    }

    private static void refusesBadPlaces() {
        for (int i : Check.NOT_0_TO_63) {
            CHECK.refusedWithoutTrace("erase " + i, Check.BAD, Busy::machine, x -> x.erase(i));
            CHECK.refusedWithoutTrace("erase " + i, Check.BAD, MicroMachine::new, x -> x.erase(i));
        }
    }

    /** The machine stays at a WORD that is no more, with what is to come. */
    private static void leavesTheMachineThere() {
        MicroMachine x = Busy.machine();
        x.erase(1);
        CHECK.due("at hand", x.count(3), 1);
        CHECK.due("to come", x.count(5) + 10 * x.count(6), 11);
        CHECK.refused("run", Check.MISSING, () -> x.run(1));
        CHECK.due("cycles", x.count(4), 2);
    }
}
