/** Promises 7 and 8, and "REGISTERS, ints .. and M, a byte (0 .. 255)". */
public final class RegisterTest {
    private static final Check CHECK = new Check();

    public static void main(String[] args) {
        keepsInts();
        keepsEveryByte();
        refusesOtherBytes();
        refusesBadRegisters();
        changesOneAlone();
        whatComesGoesOverIt();
        numbersAreOfTheNames();
        CHECK.end();
    }

    private static void keepsInts() {
        int[] ints = {Check.LOWEST, Check.LOWEST + 1, -65536, -256, -129, -1, 0, 1, 63, 64, 255, 256, 65535, Check.HIGHEST};
        for (int r = 0; r < 9; r++) {
            MicroMachine x = new MicroMachine();
            for (int v : ints) {
                x.set(r, v);
                CHECK.due("register " + r, x.register(r), v);
            }
        }
    }

    /** "9 M (0 .. 255)": told without a sign. */
    private static void keepsEveryByte() {
        MicroMachine x = new MicroMachine();
        for (int v = 255; v >= 0; v--) {
            x.set(9, v);
            CHECK.due("M", x.register(9), v);
        }
    }

    private static void refusesOtherBytes() {
        for (int v : Check.NOT_0_TO_255) {
            CHECK.refusedWithoutTrace("M of " + v, Check.BAD, Busy::machine, x -> x.set(9, v));
        }
    }

    /** "0 A .. 9 M" */
    private static void refusesBadRegisters() {
        for (int r : new int[] {-1, 10, 11, 16, 64, 256, Check.LOWEST, Check.HIGHEST}) {
            CHECK.refusedWithoutTrace("set " + r, Check.BAD, Busy::machine, x -> x.set(r, 1));
            CHECK.refusedWithoutTrace("set " + r + " to no byte", Check.BAD, Busy::machine, x -> x.set(r, -1));
            CHECK.refusedWithoutTrace("register " + r, Check.BAD, Busy::machine, x -> x.register(r));
        }
    }

    private static void changesOneAlone() {
        for (int r = 0; r < 10; r++) {
            MicroMachine x = Busy.machine();
            x.set(r, 99);
            CHECK.changedTo("set " + r, x, Busy.machine(), "register " + r + ": 99");
            MicroMachine y = Busy.machine();
            y.register(r);
            CHECK.alike("register " + r, y, Busy.machine());
        }
    }

    private static void whatComesGoesOverIt() {
        MicroMachine x = Check.machine("f;r", "g0");
        x.poke(0, 31);
        x.code(0, 32);
        x.run(1);
        x.set(1, 1);
        x.set(9, 2);
        CHECK.due("still to come", x.count(5) + x.count(6), 2);
        CHECK.due("set before it comes", x.register(1) + x.register(9), 3);
        x.run(1);
        CHECK.due("D came", x.register(1), 31);
        CHECK.due("M came", x.register(9), 32);
    }

    private static void numbersAreOfTheNames() {
        String names = "ADPSLCTOH";
        for (int r = 0; r < 9; r++) {
            MicroMachine x = Check.machine(names.charAt(r) + "=1");
            x.run(1);
            CHECK.due("register " + names.charAt(r), x.register(r), 1);
        }
        for (int r : new int[] {1, 2, 3, 4, 5, 6, 7, 8}) {
            MicroMachine x = Check.machine("A=" + names.charAt(r));
            x.set(r, 17);
            x.run(1);
            CHECK.due("set " + names.charAt(r), x.register(0), 17);
        }
    }
}
