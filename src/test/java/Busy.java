/** A machine in the midst of its work: nothing that a call could change is as it was at first. */
final class Busy {
    private Busy() {
    }

    /** At WORD 1, a word (22) and a byte (207) to come, with part of a text typed. */
    static MicroMachine machine() {
        return machine("r;f", "D=H+1");
    }

    static MicroMachine machine(String unreadable, String text) {
        MicroMachine x = new MicroMachine();
        Check.type(x, unreadable);
        try {
            x.word(9);
        } catch (IllegalArgumentException e) {
            // Its place is what is wanted.
        }
        putWords(x);
        for (int r = 0; r < 8; r++) {
            x.set(r, 60 - r);
        }
        x.set(8, 7);
        x.set(9, 200);
        for (int i : new int[] {0, 1, 7, 31, 32, 62, 63}) {
            x.poke(i, 1 + 3 * i);
            x.code(i, 200 + i % 50);
        }
        x.begin(2);
        x.run(1);
        x.begin(0);
        x.run(1);
        Check.type(x, text);
        return x;
    }

    static void putWords(MicroMachine x) {
        Check.word(x, 0, "A=P=H;f;r");
        Check.word(x, 1, "S=-1>;n3,2");
        Check.word(x, 2, "D=L=H+1<;w;g5");
        Check.word(x, 3, "C=D;f;m1");
        Check.word(x, 63, "m12");
    }

    /** As machine(), with another word at hand. */
    static MicroMachine machineAt(String text) {
        MicroMachine x = machine("r;f", "");
        Check.word(x, 1, text);
        Check.type(x, "D=H+1");
        return x;
    }

    /** As machine(), with no word at hand. */
    static MicroMachine machineAtNothing() {
        MicroMachine x = machine();
        x.erase(1);
        return x;
    }
}
