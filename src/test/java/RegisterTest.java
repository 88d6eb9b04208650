/** Promises 7 and 8. */
public final class RegisterTest {
    public static void main(String[] args) {
        Check check = new Check();
        MicroMachine x = new MicroMachine();
        int[] values = {Integer.MIN_VALUE, Integer.MAX_VALUE, -1, 64, 300, -300, 7, 8, 9, 255};
        for (int r = 0; r < 10; r++) {
            x.set(r, values[r]);
        }
        for (int r = 0; r < 10; r++) {
            check.due("register " + r, x.register(r), values[r]);
        }
        for (int r : new int[] {-1, 10, 11, Integer.MIN_VALUE, Integer.MAX_VALUE}) {
            check.refused("set " + r, Check.BAD, () -> x.set(r, 0));
            check.refused("register " + r, Check.BAD, () -> x.register(r));
        }
        for (int v : new int[] {-1, 256, Integer.MIN_VALUE, Integer.MAX_VALUE}) {
            check.refused("M of " + v, Check.BAD, () -> x.set(9, v));
        }
        check.due("M stays", x.register(9), 255);
        x.set(9, 0);
        check.due("M of 0", x.register(9), 0);
        check.due("set asks nothing", x.count(5) + x.count(6) + x.count(4), 0);
        whatComesGoesOverIt(check);
        numbersAreOfTheNames(check);
        check.end();
    }

    private static void whatComesGoesOverIt(Check check) {
        MicroMachine x = Check.machine("f;r", "g0");
        x.poke(0, 31);
        x.code(0, 32);
        x.run(1);
        x.set(1, 1);
        x.set(9, 2);
        check.due("still to come", x.count(5) + x.count(6), 2);
        check.due("set before it comes", x.register(1) + x.register(9), 3);
        x.run(1);
        check.due("D came", x.register(1), 31);
        check.due("M came", x.register(9), 32);
    }

    private static void numbersAreOfTheNames(Check check) {
        String names = "ADPSLCTOH";
        for (int r = 0; r < 9; r++) {
            MicroMachine x = Check.machine(names.charAt(r) + "=1");
            x.run(1);
            check.due("register " + names.charAt(r), x.register(r), 1);
        }
    }
}
