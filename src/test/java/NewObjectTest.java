/** Promise 1, and what Terms say is there at first. */
public final class NewObjectTest {
    private static final Check CHECK = new Check();

    public static void main(String[] args) {
        countsNothing();
        holdsZeros();
        hasNoWords();
        isAtWordZero();
        awaitsNothing();
        sharesNothing();
        CHECK.end();
    }

    private static void countsNothing() {
        MicroMachine x = new MicroMachine();
        int[] counts = {-1, 0, 0, 0, 0, 0, 0, 0, 0, 0};
        for (int what = 0; what < counts.length; what++) {
            CHECK.due("count " + what, x.count(what), counts[what]);
        }
    }

    /** "REGISTERS, ints, 0 at first"; "MEMORY has 64 ints, CODE 64 bytes; all 0 at first." */
    private static void holdsZeros() {
        MicroMachine x = new MicroMachine();
        for (int r = 0; r < 10; r++) {
            CHECK.due("register " + r, x.register(r), 0);
        }
        for (int i = 0; i < 64; i++) {
            CHECK.due("memory " + i, x.memory(i), 0);
        }
        for (int i = 0; i < 64; i++) {
            MicroMachine y = Check.machine("f", "g2");
            y.set(2, i);
            y.set(9, 1);
            y.run(2);
            CHECK.due("code " + i, y.register(9), 0);
        }
    }

    /** "THE STORE has WORDS 0 .. 63, none of them there at first." "No WORDS" */
    private static void hasNoWords() {
        MicroMachine x = new MicroMachine();
        for (int i = 0; i < 64; i++) {
            int place = i;
            CHECK.refused("told " + i, Check.MISSING, () -> x.told(place, 0));
            CHECK.refused("erase " + i, Check.MISSING, () -> x.erase(place));
        }
        CHECK.refusedWithoutTrace("run", Check.MISSING, MicroMachine::new, y -> y.run(1));
    }

    /** "at WORD 0" */
    private static void isAtWordZero() {
        MicroMachine x = new MicroMachine();
        Check.word(x, 0, "S=1;g40");
        Check.word(x, 63, "S=-1;g41");
        Check.word(x, 1, "S=-1;g42");
        CHECK.due("run", x.run(1), 40);
        CHECK.due("S", x.register(3), 1);
    }

    private static void awaitsNothing() {
        MicroMachine x = Check.machine("H=1");
        x.set(1, 11);
        x.set(9, 12);
        x.run(1);
        CHECK.due("no word comes", x.register(1), 11);
        CHECK.due("no byte comes", x.register(9), 12);
    }

    private static void sharesNothing() {
        MicroMachine used = Busy.machine();
        MicroMachine x = new MicroMachine();
        used.run(2);
        CHECK.alike("a new one beside a used one", x, new MicroMachine());
    }
}
