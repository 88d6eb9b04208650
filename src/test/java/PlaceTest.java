import java.util.Random;

/** Promise 3 and count 0: THE PLACE and the PARTS of very many texts, against the Grammar. */
public final class PlaceTest {
    private static final int ALL_UP_TO = 5;
    private static final int CALLS = 480;

    private final Grammar grammar = new Grammar();
    private final Check check = new Check();
    private MicroMachine x = new MicroMachine();
    private int calls;

    public static void main(String[] args) {
        PlaceTest test = new PlaceTest();
        test.readBehind("");
        test.readSpoiled(60000);
        test.check.end();
    }

    /** Every text of every beginning that is still right, with every character behind it. */
    private void readBehind(String beginning) {
        compare(beginning);
        for (char c = 33; c <= 126; c++) {
            String text = beginning + c;
            if (!grammar.couldBegin(text)) {
                compare(text);
            } else if (text.length() <= ALL_UP_TO) {
                readBehind(text);
            }
        }
    }

    private void readSpoiled(int texts) {
        Random random = new Random(20261115);
        for (int i = 0; i < texts; i++) {
            compare(Grammar.spoiled(grammar.anyText(random, 64), random));
        }
    }

    private void compare(String text) {
        if (calls > CALLS) {
            x = new MicroMachine();
            calls = 0;
        }
        Check.type(x, text);
        int parts = -1;
        try {
            parts = x.word(0);
        } catch (IllegalArgumentException e) {
            check.due("place of " + text, x.count(0), grammar.placeOf(text));
        }
        check.due("parts of " + text, parts, grammar.partsOf(text));
        calls += text.length() / 8 + 3;
    }
}
