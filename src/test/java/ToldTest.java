/** Promise 12. */
public final class ToldTest {
    public static void main(String[] args) {
        Check check = new Check();
        tells(check, "A=0", 1, 0, 0, 0, -1, -1, 0);
        tells(check, "D=0", 2, 0, 0, 0, -1, -1, 0);
        tells(check, "P=0", 4, 0, 0, 0, -1, -1, 0);
        tells(check, "S=0", 8, 0, 0, 0, -1, -1, 0);
        tells(check, "L=0", 16, 0, 0, 0, -1, -1, 0);
        tells(check, "C=0", 32, 0, 0, 0, -1, -1, 0);
        tells(check, "T=0", 64, 0, 0, 0, -1, -1, 0);
        tells(check, "O=0", 128, 0, 0, 0, -1, -1, 0);
        tells(check, "H=0", 256, 0, 0, 0, -1, -1, 0);
        tells(check, "H=O=A=S=P", 256 + 128 + 1 + 8, 0, 0, 0, -1, -1, 0);
        tells(check, "D=H+M<;r;g5", 2, 1, 0, 1, 5, -1, 1);
        tells(check, "D=H>;w;z0,63", 2, 2, 0, 2, 0, 63, 2);
        tells(check, "f", 0, 0, 1, 0, -1, -1, 0);
        tells(check, "f;w;n12,03", 0, 2, 1, 3, 12, 3, 0);
        tells(check, "f;r", 0, 1, 1, 0, -1, -1, 0);
        tells(check, "m", 0, 0, 0, 4, -1, -1, 0);
        tells(check, "m0", 0, 0, 0, 4, 0, -1, 0);
        tells(check, "m63", 0, 0, 0, 4, 63, -1, 0);
        tells(check, "g00", 0, 0, 0, 1, 0, -1, 0);

        MicroMachine x = Check.machine("g1");
        for (int bad : new int[] {-1, 7, Integer.MIN_VALUE, Integer.MAX_VALUE}) {
            check.refused("what " + bad, Check.BAD, () -> x.told(0, bad));
            check.refused("what " + bad + " of a missing word", Check.BAD, () -> x.told(1, bad));
        }
        for (int bad : new int[] {-1, 64, Integer.MIN_VALUE, Integer.MAX_VALUE}) {
            check.refused("word " + bad, Check.BAD, () -> x.told(bad, 0));
        }
        for (int what = 0; what < 7; what++) {
            int asked = what;
            check.refused("missing, what " + what, Check.MISSING, () -> x.told(63, asked));
        }
        check.end();
    }

    private static void tells(Check check, String text, int... due) {
        MicroMachine x = new MicroMachine();
        Check.word(x, 63, text);
        for (int what = 0; what < due.length; what++) {
            check.due("told " + what + " of " + text, x.told(63, what), due[what]);
        }
    }
}
