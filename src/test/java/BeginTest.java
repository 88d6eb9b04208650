/** Promise 5. */
public final class BeginTest {
    private static final Check CHECK = new Check();

    public static void main(String[] args) {
        isAtEveryWord();
        letsNothingCome();
        leavesAllElse();
        refusesBadPlaces();
        runsFromThere();
        CHECK.end();
    }

    /** "The machine is at WORD i", be it there or not. */
    private static void isAtEveryWord() {
        MicroMachine x = new MicroMachine();
        for (int i = 63; i >= 0; i--) {
            x.begin(i);
            CHECK.due("at hand", x.count(3), i);
        }
    }

    /** "nothing asked for is to come" */
    private static void letsNothingCome() {
        for (String asking : "r f f;r f;w".split(" ")) {
            MicroMachine x = Check.machine("A=P=1;" + asking, "H=1");
            x.poke(1, 77);
            x.code(1, 88);
            x.set(1, 5);
            x.set(9, 6);
            x.run(1);
            x.begin(1);
            CHECK.due(asking + ": to come", x.count(5) + x.count(6), 0);
            x.run(1);
            CHECK.due(asking + ": D did not come", x.register(1), 5);
            CHECK.due(asking + ": M did not come", x.register(9), 6);
        }
    }

    /** "all else stays" */
    private static void leavesAllElse() {
        for (int i : new int[] {0, 1, 40, 63}) {
            MicroMachine x = Busy.machine();
            x.begin(i);
            String[] here = {"count 5: 0", "count 6: 0", "D come: 2048", "M come: 200"};
            String[] there = {"count 3: " + i, here[0], here[1], here[2], here[3]};
            CHECK.changedTo("begin " + i, x, Busy.machine(), i == 1 ? here : there);
        }
    }

    private static void refusesBadPlaces() {
        for (int i : Check.NOT_0_TO_63) {
            CHECK.refusedWithoutTrace("begin " + i, Check.BAD, Busy::machine, x -> x.begin(i));
        }
    }

    private static void runsFromThere() {
        MicroMachine x = Check.machine("S=1;g9", "S=S+1;g8");
        Check.word(x, 63, "S=-1;g7");
        x.begin(63);
        CHECK.due("run", x.run(1), 7);
        x.begin(1);
        CHECK.due("run", x.run(1), 8);
        CHECK.due("S", x.register(3), 0);
        x.begin(0);
        CHECK.due("run", x.run(1), 9);
        CHECK.due("cycles", x.count(4), 3);
    }
}
