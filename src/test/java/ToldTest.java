/** Promise 12. */
public final class ToldTest {
    private static final Check CHECK = new Check();

    public static void main(String[] args) {
        tellsSettings();
        tellsAskings();
        tellsGoings();
        tellsShifts();
        tellsAllOfAWord();
        refusesMissing();
        refusesBad();
        changesNothing();
        CHECK.end();
    }

    private static void tells(String text, int... due) {
        for (int i : new int[] {0, 63}) {
            MicroMachine x = new MicroMachine();
            Check.word(x, i, text);
            for (int what = 0; what < due.length; what++) {
                CHECK.due("told " + what + " of " + text, x.told(i, what), due[what]);
            }
        }
    }

    /** "the registers of its SETTING as bits 0 (A) .. 8 (what 0)" */
    private static void tellsSettings() {
        String names = "ADPSLCTOH";
        for (int r = 0; r < 9; r++) {
            tells(names.charAt(r) + "=0", 1 << r, 0, 0, 0, -1, -1, 0);
            tells(names.charAt(r) + "=H", 1 << r, 0, 0, 0, -1, -1, 0);
        }
        for (int bits = 1; bits < 512; bits++) {
            if (Integer.bitCount(bits) <= 4) {
                StringBuilder text = new StringBuilder();
                for (int r = 8; r >= 0; r--) {
                    text.append((bits >> r & 1) != 0 ? names.charAt(r) + "=" : "");
                }
                tells(text + "D", bits, 0, 0, 0, -1, -1, 0);
            }
        }
    }

    /** "1 for r, 2 for w, 0 for neither (1); 1 for f (2)" */
    private static void tellsAskings() {
        tells("f", 0, 0, 1, 0, -1, -1, 0);
        tells("r", 0, 1, 0, 0, -1, -1, 0);
        tells("w", 0, 2, 0, 0, -1, -1, 0);
        tells("f;r", 0, 1, 1, 0, -1, -1, 0);
        tells("f;w", 0, 2, 1, 0, -1, -1, 0);
    }

    /** "0 without GOING, 1 g, 2 z, 3 n, 4 m (3); the first NUMBER, -1 for none (4), the second (5)" */
    private static void tellsGoings() {
        tells("m", 0, 0, 0, 4, -1, -1, 0);
        for (int n : new int[] {0, 1, 9, 10, 62, 63}) {
            tells("g" + n, 0, 0, 0, 1, n, -1, 0);
            tells("z" + n + ",7", 0, 0, 0, 2, n, 7, 0);
            tells("z7," + n, 0, 0, 0, 2, 7, n, 0);
            tells("n" + n + ",7", 0, 0, 0, 3, n, 7, 0);
            tells("n7," + n, 0, 0, 0, 3, 7, n, 0);
            tells("m" + n, 0, 0, 0, 4, n, -1, 0);
        }
        tells("g00", 0, 0, 0, 1, 0, -1, 0);
        tells("n08,03", 0, 0, 0, 3, 8, 3, 0);
    }

    /** "SHIFT: 0 none, 1 left, 2 right (6)" */
    private static void tellsShifts() {
        for (String value : "0 1 -1 H D !H D-H H+U+1".split(" ")) {
            tells("S=" + value, 8, 0, 0, 0, -1, -1, 0);
            tells("S=" + value + "<", 8, 0, 0, 0, -1, -1, 1);
            tells("S=" + value + ">", 8, 0, 0, 0, -1, -1, 2);
        }
    }

    private static void tellsAllOfAWord() {
        tells("H=O=A=S=P", 256 + 128 + 1 + 8, 0, 0, 0, -1, -1, 0);
        tells("D=H+M<;r;g5", 2, 1, 0, 1, 5, -1, 1);
        tells("D=H>;w;z0,63", 2, 2, 0, 2, 0, 63, 2);
        tells("T=D>;f;w;n12,03", 64, 2, 1, 3, 12, 3, 2);
    }

    /** "Of WORD i (not there: missing)" */
    private static void refusesMissing() {
        for (int what = 0; what < 7; what++) {
            for (int i : new int[] {4, 9, 62}) {
                int asked = what;
                CHECK.refusedWithoutTrace("told " + i + ", " + what, Check.MISSING, Busy::machine, x -> x.told(i, asked));
            }
        }
        MicroMachine x = Check.machine("g1");
        x.erase(0);
        CHECK.refused("an erased word", Check.MISSING, () -> x.told(0, 0));
    }

    /** A number out of range is bad, also where the word is missing. */
    private static void refusesBad() {
        for (int i : Check.NOT_0_TO_63) {
            CHECK.refusedWithoutTrace("word " + i, Check.BAD, Busy::machine, x -> x.told(i, 0));
            CHECK.refused("word " + i + " of none", Check.BAD, () -> new MicroMachine().told(i, 6));
        }
        for (int what : new int[] {-1, 7, 8, 64, Check.LOWEST, Check.HIGHEST}) {
            CHECK.refusedWithoutTrace("what " + what, Check.BAD, Busy::machine, x -> x.told(0, what));
            CHECK.refusedWithoutTrace("what " + what + ", missing", Check.BAD, Busy::machine, x -> x.told(62, what));
        }
    }

    private static void changesNothing() {
        MicroMachine x = Busy.machine();
        for (int what = 0; what < 7; what++) {
            x.told(2, what);
        }
        CHECK.alike("told", x, Busy.machine());
    }
}
