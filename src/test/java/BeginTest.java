/** Promise 5. */
public final class BeginTest {
    public static void main(String[] args) {
        Check check = new Check();
        MicroMachine x = Check.machine("A=P=1;f;r", "H=1");
        x.poke(1, 77);
        x.code(1, 88);
        x.set(1, 5);
        x.set(9, 6);
        x.run(1);
        check.due("a word is to come", x.count(5), 1);
        check.due("a byte is to come", x.count(6), 1);
        Check.type(x, "D=");
        x.begin(1);
        check.due("at hand", x.count(3), 1);
        check.due("no word is to come", x.count(5), 0);
        check.due("no byte is to come", x.count(6), 0);
        check.due("what was asked for stays counted", x.count(7) + 10 * x.count(9), 11);
        check.due("cycles stay", x.count(4), 1);
        check.due("text stays", x.count(1), 2);
        check.due("words stay", x.count(2), 2);
        check.due("registers stay", x.register(0) + 10 * x.register(2), 11);
        check.due("runs from there", x.run(1), 2);
        check.due("D did not come", x.register(1), 5);
        check.due("M did not come", x.register(9), 6);
        x.begin(63);
        check.due("63", x.count(3), 63);
        check.refused("begin 64", Check.BAD, () -> x.begin(64));
        check.refused("begin -1", Check.BAD, () -> x.begin(-1));
        check.due("still", x.count(3), 63);
        x.begin(0);
        x.run(1);
        check.refused("begin 99", Check.BAD, () -> x.begin(99));
        check.due("a refused begin lets the word come", x.count(5), 1);
        x.run(1);
        check.due("D came", x.register(1), 77);
        check.end();
    }
}
