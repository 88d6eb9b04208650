/** Promise 4. */
public final class EraseTest {
    public static void main(String[] args) {
        Check check = new Check();
        MicroMachine x = Check.machine("g1", "g0");
        Check.word(x, 63, "r");
        x.erase(1);
        check.due("words", x.count(2), 2);
        check.refused("told of an erased word", Check.MISSING, () -> x.told(1, 0));
        check.refused("erased twice", Check.MISSING, () -> x.erase(1));
        check.due("words", x.count(2), 2);
        check.due("the others stay", x.told(0, 3) + 10 * x.told(63, 1), 11);
        check.refused("run to it", Check.MISSING, () -> x.run(2));
        check.due("at hand", x.count(3), 1);
        check.refused("erase -1", Check.BAD, () -> x.erase(-1));
        check.refused("erase 64", Check.BAD, () -> x.erase(64));
        x.erase(63);
        check.refused("erased at the end", Check.MISSING, () -> x.erase(63));
        check.due("there again", Check.word(x, 1, "H=1;m"), 2);
        check.due("words", x.count(2), 2);
        check.due("runs again", x.run(1), 0);
        Check.type(x, "f;");
        x.erase(0);
        check.due("the text stays", x.count(1), 2);
        check.due("the place stays", x.count(3), 0);
        check.end();
    }
}
