/** Promises 9, 10 and 11, and "MEMORY has 64 ints, CODE 64 bytes". */
public final class MemoryTest {
    private static final Check CHECK = new Check();

    public static void main(String[] args) {
        keepsInts();
        keepsSixtyFour();
        refusesBadPlaces();
        keepsEveryByte();
        keepsSixtyFourBytes();
        refusesOtherBytes();
        changesOneAlone();
        CHECK.end();
    }

    private static void keepsInts() {
        int[] ints = {Check.LOWEST, -65536, -129, -1, 0, 1, 128, 255, 256, 65535, Check.HIGHEST};
        for (int i : new int[] {0, 1, 62, 63}) {
            MicroMachine x = new MicroMachine();
            for (int v : ints) {
                x.poke(i, v);
                CHECK.due("memory " + i, x.memory(i), v);
            }
        }
    }

    private static void keepsSixtyFour() {
        MicroMachine x = new MicroMachine();
        for (int i = 0; i < 64; i++) {
            x.poke(i, i * 100000007 - 5);
        }
        for (int i = 0; i < 64; i++) {
            CHECK.due("memory " + i, x.memory(i), i * 100000007 - 5);
        }
        CHECK.due("nothing was asked for", x.count(5) + x.count(7) + x.count(8), 0);
    }

    /** "MEMORY i (0 .. 63)", and CODE likewise */
    private static void refusesBadPlaces() {
        for (int i : Check.NOT_0_TO_63) {
            CHECK.refusedWithoutTrace("poke " + i, Check.BAD, Busy::machine, x -> x.poke(i, 5));
            CHECK.refusedWithoutTrace("memory " + i, Check.BAD, Busy::machine, x -> x.memory(i));
            CHECK.refusedWithoutTrace("code " + i, Check.BAD, Busy::machine, x -> x.code(i, 5));
            CHECK.refusedWithoutTrace("code " + i + " of no byte", Check.BAD, Busy::machine, x -> x.code(i, 256));
        }
    }

    private static int fetched(int i, int v) {
        MicroMachine x = Check.machine("f", "g0");
        x.code(i, 77);
        x.code(i, v);
        x.set(2, i);
        x.run(2);
        CHECK.due("code is not memory", x.memory(i), 0);
        CHECK.due("only the cycle fetches", x.count(9), 1);
        return x.register(9);
    }

    /** "CODE i becomes v (0 .. 255)." */
    private static void keepsEveryByte() {
        for (int v = 0; v < 256; v++) {
            CHECK.due("code", fetched(v % 64, v), v);
        }
        for (int v : new int[] {0, 127, 128, 255}) {
            CHECK.due("code 0", fetched(0, v), v);
            CHECK.due("code 63", fetched(63, v), v);
        }
    }

    private static void keepsSixtyFourBytes() {
        MicroMachine x = Check.machine("P=P+1;f;g1", "g0");
        for (int i = 0; i < 64; i++) {
            x.code(i, 255 - 3 * i);
        }
        x.set(2, -1);
        for (int i = 0; i < 64; i++) {
            x.run(2);
            CHECK.due("code " + i, x.register(9), 255 - 3 * i);
        }
    }

    private static void refusesOtherBytes() {
        for (int v : Check.NOT_0_TO_255) {
            for (int i : new int[] {0, 7, 63}) {
                CHECK.refusedWithoutTrace("code of " + v, Check.BAD, Busy::machine, x -> x.code(i, v));
            }
        }
    }

    private static void changesOneAlone() {
        for (int i = 0; i < 64; i += 7) {
            MicroMachine x = Busy.machine();
            x.poke(i, -9);
            CHECK.changedTo("poke " + i, x, Busy.machine(), "memory " + i + ": -9");
            MicroMachine y = Busy.machine();
            y.code(i, 123);
            CHECK.changedTo("code " + i, y, Busy.machine(), "code " + i + ": 123");
            MicroMachine z = Busy.machine();
            z.memory(i);
            CHECK.alike("memory " + i, z, Busy.machine());
        }
    }
}
