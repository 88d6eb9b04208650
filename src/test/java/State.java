import java.util.ArrayList;
import java.util.List;
import java.util.function.IntSupplier;

/**
 * All that can be told of a machine, line by line. What no call tells is drawn out behind that: the
 * text, what is to come, and CODE. That uses the machine up, and some 350 of its 512 calls.
 */
final class State {
    private static final int FREE_WORD = 62;

    private final MicroMachine x;
    private final List<String> lines = new ArrayList<>();

    private State(MicroMachine x) {
        this.x = x;
    }

    static List<String> of(MicroMachine x) {
        State state = new State(x);
        state.tell();
        state.drawOutText();
        state.drawOutComing();
        state.drawOutValue();
        state.drawOutCode();
        return state.lines;
    }

    /** True if there was an answer. */
    private boolean note(String what, IntSupplier call) {
        String answer;
        boolean isThere = true;
        try {
            answer = String.valueOf(call.getAsInt());
        } catch (RuntimeException e) {
            answer = e.getClass().getSimpleName();
            isThere = false;
        }
        lines.add(what + ": " + answer);
        return isThere;
    }

    private void tell() {
        for (int what = 0; what < 10; what++) {
            int asked = what;
            note("count " + what, () -> x.count(asked));
        }
        noteRegisters("register ");
        for (int i = 0; i < 64; i++) {
            int place = i;
            note("memory " + i, () -> x.memory(place));
        }
        for (int i = 0; i < 64; i++) {
            noteWord("told ", i);
        }
    }

    private void noteRegisters(String what) {
        for (int r = 0; r < 10; r++) {
            int asked = r;
            note(what + r, () -> x.register(asked));
        }
    }

    private void noteWord(String what, int i) {
        boolean isThere = note(what + i + ", 0", () -> x.told(i, 0));
        for (int k = 1; k < 7 && isThere; k++) {
            int asked = k;
            note(what + i + ", " + k, () -> x.told(i, asked));
        }
    }

    private void drawOutText() {
        note("text with more", () -> x.type(Check.packed(";g7")));
        note("text as a word", () -> x.word(FREE_WORD));
        note("text's place", () -> x.count(0));
        noteWord("text told ", FREE_WORD);
    }

    private void drawOutComing() {
        x.type(Check.packed("g0"));
        x.word(x.count(3));
        x.run(1);
        note("D come", () -> x.register(1));
        note("M come", () -> x.register(9));
    }

    private void drawOutValue() {
        for (int r = 0; r < 9; r++) {
            x.set(r, 3 << 3 * r);
        }
        x.set(9, 165);
        x.begin(FREE_WORD);
        note("text run", () -> x.run(1));
        noteRegisters("text's register ");
    }

    private void drawOutCode() {
        Check.word(x, 0, "P=P+1;f;g1");
        Check.word(x, 1, "g0");
        x.begin(0);
        x.set(2, -1);
        for (int i = 0; i < 64; i++) {
            x.run(2);
            note("code " + i, () -> x.register(9));
        }
    }
}
