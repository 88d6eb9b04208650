/** Promises 9, 10 and 11. */
public final class MemoryTest {
    public static void main(String[] args) {
        Check check = new Check();
        keepsWords(check);
        keepsBytes(check);
        check.end();
    }

    private static void keepsWords(Check check) {
        MicroMachine x = new MicroMachine();
        for (int i = 0; i < 64; i++) {
            x.poke(i, i * 100000007);
        }
        x.poke(0, Integer.MIN_VALUE);
        x.poke(63, Integer.MAX_VALUE);
        check.due("memory 0", x.memory(0), Integer.MIN_VALUE);
        check.due("memory 63", x.memory(63), Integer.MAX_VALUE);
        for (int i = 1; i < 63; i++) {
            check.due("memory " + i, x.memory(i), i * 100000007);
        }
        for (int i : new int[] {-1, 64, Integer.MIN_VALUE, Integer.MAX_VALUE}) {
            check.refused("poke " + i, Check.BAD, () -> x.poke(i, 0));
            check.refused("memory " + i, Check.BAD, () -> x.memory(i));
            check.refused("code " + i, Check.BAD, () -> x.code(i, 0));
        }
        check.due("nothing was asked for", x.count(7) + x.count(8), 0);
    }

    private static void keepsBytes(Check check) {
        for (int i = 0; i < 64; i++) {
            MicroMachine x = Check.machine("f", "g0");
            int v = 255 - 4 * i;
            x.code(i, v);
            x.set(2, i);
            x.run(2);
            check.due("code " + i, x.register(9), v);
            check.due("code is not memory", x.memory(i), 0);
        }
        MicroMachine x = Check.machine("f", "g0");
        x.code(0, 17);
        for (int v : new int[] {-1, 256, Integer.MIN_VALUE, Integer.MAX_VALUE}) {
            check.refused("code of " + v, Check.BAD, () -> x.code(0, v));
        }
        x.run(2);
        check.due("code stays", x.register(9), 17);
        x.code(0, 0);
        x.run(2);
        check.due("code of 0", x.register(9), 0);
    }
}
