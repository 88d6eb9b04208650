/** Promise 13. */
public final class CountTest {
    private static final Check CHECK = new Check();

    public static void main(String[] args) {
        tellsThePlace();
        tellsTheLength();
        countsWords();
        countsCycles();
        countsWhatIsAskedFor();
        countsNoRefusedCycle();
        countsFar();
        answersElse();
        changesNothing();
        CHECK.end();
    }

    /** "THE PLACE of the latest text that couldn't be read, -1 if there was none (0)" */
    private static void tellsThePlace() {
        MicroMachine x = Check.typed("D=H-1");
        CHECK.due("no place before it is read", x.count(0), -1);
        CHECK.refused("unreadable", Check.BAD, () -> x.word(0));
        CHECK.due("place", x.count(0), 3);
        Check.word(x, 0, "D=H");
        CHECK.due("the latest that couldn't be read", x.count(0), 3);
        Check.type(x, "f;");
        CHECK.refused("a bad i", Check.BAD, () -> x.word(64));
        CHECK.due("a bad i tells nothing of the text", x.count(0), 3);
        CHECK.refused("type", Check.BAD, () -> x.type(' '));
        CHECK.due("nor does what can't be typed", x.count(0), 3);
        CHECK.refused("unreadable", Check.BAD, () -> x.word(0));
        CHECK.due("a new place", x.count(0), 2);
        CHECK.refused("the empty text", Check.BAD, () -> x.word(0));
        CHECK.due("its place", x.count(0), 0);
        x.begin(5);
        x.erase(0);
        CHECK.due("the place stays", x.count(0), 0);
    }

    /** "the text's length (1)" */
    private static void tellsTheLength() {
        MicroMachine x = new MicroMachine();
        for (int length = 1; length <= 40; length++) {
            x.type('!');
            CHECK.due("length", x.count(1), length);
        }
        CHECK.refused("one more", Check.FULL, () -> x.type('!'));
        CHECK.due("full", x.count(1), 40);
        CHECK.refused("word", Check.BAD, () -> x.word(0));
        CHECK.due("empty", x.count(1), 0);
    }

    /** "WORDS there (2)" */
    private static void countsWords() {
        MicroMachine x = new MicroMachine();
        for (int i = 0; i < 64; i++) {
            Check.word(x, i, "r");
            CHECK.due("words", x.count(2), i + 1);
        }
        Check.word(x, 9, "w");
        CHECK.due("none is counted twice", x.count(2), 64);
        Check.type(x, "r;");
        CHECK.refused("unreadable", Check.BAD, () -> x.word(9));
        CHECK.due("an unreadable one counts nothing", x.count(2), 64);
        x.erase(9);
        CHECK.due("all but one", x.count(2), 63);
        CHECK.refused("erased twice", Check.MISSING, () -> x.erase(9));
        CHECK.due("all but one", x.count(2), 63);
    }

    /** "the WORD at hand (3); CYCLES done (4); 1 if a word is to come (5), a byte (6)", and the counts of asking */
    private static void countsCycles() {
        MicroMachine x = Check.machine("f", "r", "w", "f;r", "f;w", "H=1", "g0");
        CHECK.due("at hand", x.run(1), 1);
        counts(x, "f", 1, 1, 0, 1, 0, 0, 1);
        x.run(1);
        counts(x, "r", 2, 2, 1, 0, 1, 0, 1);
        x.run(1);
        counts(x, "w", 3, 3, 0, 0, 1, 1, 1);
        x.run(1);
        counts(x, "f;r", 4, 4, 1, 1, 2, 1, 2);
        x.run(1);
        counts(x, "f;w", 5, 5, 0, 1, 2, 2, 3);
        x.run(1);
        counts(x, "H=1", 6, 6, 0, 0, 2, 2, 3);
        x.run(1);
        counts(x, "g0", 0, 7, 0, 0, 2, 2, 3);
        x.run(500);
        counts(x, "round and round", 3, 507, 0, 0, 145, 145, 217);
    }

    /** The counts 3, 4, .. 9. */
    private static void counts(MicroMachine x, String where, int... due) {
        for (int i = 0; i < due.length; i++) {
            CHECK.due("count " + (i + 3) + " behind " + where, x.count(i + 3), due[i]);
        }
    }

    /** "words read (7), written (8), bytes read (9), as asked for, in all": also what never comes. */
    private static void countsWhatIsAskedFor() {
        MicroMachine x = Check.machine("f;r", "f;w");
        x.run(1);
        counts(x, "asking", 1, 1, 1, 1, 1, 0, 1);
        x.begin(0);
        counts(x, "begin", 0, 1, 0, 0, 1, 0, 1);
        x.run(2);
        counts(x, "asking again", 2, 3, 0, 1, 2, 1, 3);
        x.begin(63);
        counts(x, "begin", 63, 3, 0, 0, 2, 1, 3);
        CHECK.refused("run", Check.MISSING, () -> x.run(1));
        counts(x, "missing", 63, 3, 0, 0, 2, 1, 3);
    }

    private static void countsNoRefusedCycle() {
        for (String asking : "f;r f;w".split(" ")) {
            for (String outside : "A P".split(" ")) {
                MicroMachine x = Check.machine("S=1", outside + "=-1;" + asking);
                CHECK.refused(asking, Check.OUTSIDE, () -> x.run(2));
                counts(x, asking, 1, 1, 0, 0, 0, 0, 0);
            }
        }
    }

    /** As far as the 512 calls of one object can go, or nearly. */
    private static void countsFar() {
        MicroMachine x = Check.machine("H=H+1;f;r;g1", "f;w;g0");
        for (int i = 0; i < 490; i++) {
            x.run(500);
        }
        CHECK.due("H", x.register(8), 122500);
        counts(x, "far", 0, 245000, 0, 1, 122500, 122500, 245000);
    }

    /** "else -1" */
    private static void answersElse() {
        MicroMachine x = Busy.machine();
        for (int what : new int[] {-1, 10, 11, 16, 64, 256, Check.LOWEST, Check.HIGHEST}) {
            CHECK.due("count " + what, x.count(what), -1);
        }
        CHECK.alike("count of nothing", x, Busy.machine());
    }

    private static void changesNothing() {
        MicroMachine x = Busy.machine();
        for (int what = 0; what < 10; what++) {
            x.count(what);
        }
        CHECK.alike("count", x, Busy.machine());
    }
}
