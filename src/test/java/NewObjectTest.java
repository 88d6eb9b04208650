/** Promise 1, and what Terms say is there at first. */
public final class NewObjectTest {
    public static void main(String[] args) {
        Check check = new Check();
        MicroMachine x = new MicroMachine();
        int[] counts = {-1, 0, 0, 0, 0, 0, 0, 0, 0, 0};
        for (int what = 0; what < counts.length; what++) {
            check.due("count " + what, x.count(what), counts[what]);
        }
        for (int r = 0; r < 10; r++) {
            check.due("register " + r, x.register(r), 0);
        }
        for (int i = 0; i < 64; i++) {
            int place = i;
            check.due("memory " + i, x.memory(i), 0);
            check.refused("told " + i, Check.MISSING, () -> x.told(place, 0));
            check.refused("erase " + i, Check.MISSING, () -> x.erase(place));
        }
        check.refused("run", Check.MISSING, () -> x.run(1));
        codeIsEmpty(check);
        objectsShareNothing(check);
        check.end();
    }

    private static void codeIsEmpty(Check check) {
        for (int i = 0; i < 64; i++) {
            MicroMachine x = Check.machine("f", "g2");
            x.set(2, i);
            x.set(9, 1);
            x.run(2);
            check.due("code " + i, x.register(9), 0);
        }
    }

    private static void objectsShareNothing(Check check) {
        MicroMachine used = Check.machine("A=D=1;f;w");
        used.poke(5, 5);
        used.code(0, 9);
        used.run(1);
        Check.type(used, "left");
        MicroMachine x = new MicroMachine();
        check.due("its own words", x.count(2), 0);
        check.due("its own text", x.count(1), 0);
        check.due("its own memory", x.memory(5) + x.memory(1), 0);
        check.due("its own registers", x.register(0) + x.register(1), 0);
        check.due("its own place", x.count(3), 0);
    }
}
