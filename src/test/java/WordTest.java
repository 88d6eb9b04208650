/** Promise 3; what can be read, and THE PLACE where it can't, stands in ReadingTest. */
public final class WordTest {
    private static final Check CHECK = new Check();

    public static void main(String[] args) {
        refusesBadPlaces();
        emptiesTheText();
        emptiesABadText();
        looksAtThePlaceFirst();
        becomesWord();
        fillsTheStore();
        answersParts();
        CHECK.end();
    }

    /** "WORD i (0 .. 63)"; the text is empty then also if it's bad, "but not where i is bad" */
    private static void refusesBadPlaces() {
        for (int i : Check.NOT_0_TO_63) {
            CHECK.refusedWithoutTrace("word " + i, Check.BAD, Busy::machine, x -> x.word(i));
            MicroMachine x = Check.typed("A=1;r");
            CHECK.refused("word " + i, Check.BAD, () -> x.word(i));
            CHECK.due("the text stays", x.count(1), 5);
            CHECK.due("and becomes a word", x.word(63), 2);
        }
    }

    private static void emptiesTheText() {
        MicroMachine x = Check.machine("A=1;r");
        CHECK.due("length", x.count(1), 0);
        CHECK.refused("the text again", Check.BAD, () -> x.word(1));
        CHECK.due("it was empty", x.count(0), 0);
        CHECK.due("words", x.count(2), 1);
        CHECK.due("type", x.type('g'), 1);
    }

    /** "The text, empty then also if it's bad"; WORD i stays as it was. */
    private static void emptiesABadText() {
        String[] texts = {"D=1;x", "D=1;", "", "x", "g64", "!".repeat(40)};
        for (String text : texts) {
            for (int i : new int[] {0, 1, 62, 63}) {
                MicroMachine x = Busy.machine("r;f", text);
                CHECK.refused("word of " + text, Check.BAD, () -> x.word(i));
                CHECK.alike("word of " + text, x, Busy.machine(text, ""));
            }
        }
    }

    private static void looksAtThePlaceFirst() {
        for (int i : new int[] {-1, 64}) {
            for (String text : new String[] {"", "D=", "x"}) {
                CHECK.refusedWithoutTrace("a bad text to " + i, Check.BAD, () -> Busy.machine("r;f", text), x -> x.word(i));
            }
        }
    }

    /** "becomes WORD i": in place of what was there, and without a trace of it. */
    private static void becomesWord() {
        MicroMachine x = Busy.machine("r;f", "");
        Check.word(x, 1, "A=D=P=S=H+L+1<;f;r;z63,63");
        Check.word(x, 1, "S=-1>;n3,2");
        CHECK.alike("back to what it was", x, Busy.machine("r;f", ""));
        MicroMachine y = Busy.machine("r;f", "");
        Check.word(y, 61, "T=0>;g9");
        CHECK.changedTo("one more", y, Busy.machine("r;f", ""), "count 2: 6", "told 61, 0: 64", "told 61, 1: 0",
                "told 61, 2: 0", "told 61, 3: 1", "told 61, 4: 9", "told 61, 5: -1", "told 61, 6: 2");
    }

    private static void fillsTheStore() {
        MicroMachine x = new MicroMachine();
        for (int i = 0; i < 64; i++) {
            CHECK.due("word " + i, Check.word(x, i, "S=S+1;g" + (63 - i)), 2);
            CHECK.due("words", x.count(2), i + 1);
        }
        for (int i = 0; i < 64; i++) {
            CHECK.due("goes from " + i, x.told(i, 4), 63 - i);
        }
        CHECK.due("again", Check.word(x, 63, "m"), 1);
        CHECK.due("words", x.count(2), 64);
    }

    /** "Answers how many PARTS it has." */
    private static void answersParts() {
        String[] settings = {"", "A=1", "D=H+M+1<"};
        String[] askings = {"", "f", "r", "w", "f;r", "f;w"};
        String[] goings = {"", "g0", "z1,2", "n63,00", "m", "m7"};
        for (String setting : settings) {
            for (String asking : askings) {
                for (String going : goings) {
                    String text = joined(setting, asking, going);
                    if (!text.isEmpty()) {
                        CHECK.readable(text, text.split(";").length);
                    }
                }
            }
        }
    }

    private static String joined(String... parts) {
        StringBuilder text = new StringBuilder();
        for (String part : parts) {
            if (!part.isEmpty()) {
                text.append(text.length() > 0 ? ";" : "").append(part);
            }
        }
        return text.toString();
    }
}
