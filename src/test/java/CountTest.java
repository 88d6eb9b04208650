/** Promise 13. */
public final class CountTest {
    public static void main(String[] args) {
        Check check = new Check();
        countsTexts(check);
        countsCycles(check);
        MicroMachine x = new MicroMachine();
        for (int what : new int[] {-1, 10, 11, 64, Integer.MIN_VALUE, Integer.MAX_VALUE}) {
            check.due("count " + what, x.count(what), -1);
        }
        check.end();
    }

    private static void countsTexts(Check check) {
        MicroMachine x = new MicroMachine();
        Check.type(x, "D=H-1");
        check.due("length", x.count(1), 5);
        check.due("no place before it is read", x.count(0), -1);
        check.refused("unreadable", Check.BAD, () -> x.word(0));
        check.due("place", x.count(0), 3);
        check.due("length", x.count(1), 0);
        check.due("words", x.count(2), 0);
        Check.word(x, 0, "D=H");
        check.due("the place of the latest that couldn't be read", x.count(0), 3);
        check.due("words", x.count(2), 1);
        Check.type(x, "f;");
        check.refused("unreadable", Check.BAD, () -> x.word(64));
        check.due("a bad i tells nothing of the text", x.count(0), 3);
        check.refused("unreadable", Check.BAD, () -> x.word(0));
        check.due("a new place", x.count(0), 2);
        for (int i = 0; i < 64; i++) {
            Check.word(x, i, "r");
        }
        check.due("all words", x.count(2), 64);
        x.erase(9);
        check.due("all but one", x.count(2), 63);
    }

    private static void countsCycles(Check check) {
        MicroMachine x = Check.machine("f", "r", "w", "f;r", "f;w", "H=1", "g0");
        check.due("at hand", x.run(1), 1);
        told(check, x, "f", 1, 1, 0, 1, 0, 0, 1);
        x.run(1);
        told(check, x, "r", 2, 2, 1, 0, 1, 0, 1);
        x.run(1);
        told(check, x, "w", 3, 3, 0, 0, 1, 1, 1);
        x.run(1);
        told(check, x, "f;r", 4, 4, 1, 1, 2, 1, 2);
        x.run(1);
        told(check, x, "f;w", 5, 5, 0, 1, 2, 2, 3);
        x.run(1);
        told(check, x, "H=1", 6, 6, 0, 0, 2, 2, 3);
        x.run(1);
        told(check, x, "g0", 0, 7, 0, 0, 2, 2, 3);
        x.run(500);
        told(check, x, "round and round", 3, 507, 0, 0, 145, 145, 217);
    }

    /** The counts 3, 4, .. 9. */
    private static void told(Check check, MicroMachine x, String where, int... due) {
        for (int i = 0; i < due.length; i++) {
            check.due("count " + (i + 3) + " behind " + where, x.count(i + 3), due[i]);
        }
    }
}
