import java.util.ArrayList;
import java.util.List;
import java.util.NoSuchElementException;
import java.util.function.Consumer;
import java.util.function.Supplier;

/** What the tests share: comparing answers, typing texts, and the end with its exit code. */
final class Check {
    static final Class<? extends RuntimeException> BAD = IllegalArgumentException.class;
    static final Class<? extends RuntimeException> MISSING = NoSuchElementException.class;
    static final Class<? extends RuntimeException> FULL = IllegalStateException.class;
    static final Class<? extends RuntimeException> OUTSIDE = IndexOutOfBoundsException.class;

    static final int LOWEST = Integer.MIN_VALUE;
    static final int HIGHEST = Integer.MAX_VALUE;

    // The first wrong numbers on either side, those that a mask or a cast would make right, the farthest.
    static final int[] NOT_0_TO_63 = {-1, 64, -64, 65, 128, 255, 256, 65536, LOWEST, HIGHEST};
    static final int[] NOT_0_TO_255 = {-1, 256, -128, -256, 257, 511, 65536, LOWEST, HIGHEST};

    interface Call {
        void make();
    }

    private int wrong;

    void due(String what, long got, long want) {
        if (got != want) {
            wrong++;
            System.out.println(what + " answered " + got + ", due is " + want);
        }
    }

    void due(String what, String got, String want) {
        if (!got.equals(want)) {
            wrong++;
            System.out.println(what + " answered " + got + ", due is " + want);
        }
    }

    /** The call throws just this class, not one below it. */
    void refused(String what, Class<? extends RuntimeException> want, Call call) {
        Class<?> got = null;
        try {
            call.make();
        } catch (RuntimeException e) {
            got = e.getClass();
        }
        if (got != want) {
            wrong++;
            System.out.println(what + " threw " + got + ", due is " + want);
        }
    }

    /** The call is refused, and behind it the machine is as one made alike and never called so. */
    void refusedWithoutTrace(String what, Class<? extends RuntimeException> want,
            Supplier<MicroMachine> maker, Consumer<MicroMachine> call) {
        MicroMachine x = maker.get();
        refused(what, want, () -> call.accept(x));
        alike(what, x, maker.get());
    }

    /** Nothing tells the two machines apart; uses both up. */
    void alike(String what, MicroMachine got, MicroMachine want) {
        List<String> there = State.of(got);
        List<String> due = State.of(want);
        due(what + ": state", linesOnlyIn(there, due), linesOnlyIn(due, there));
    }

    /** Just these lines of the machine's state are other than the untouched one's; uses both up. */
    void changedTo(String what, MicroMachine touched, MicroMachine untouched, String... due) {
        due(what + ": changed", linesOnlyIn(State.of(touched), State.of(untouched)), List.of(due).toString());
    }

    private static String linesOnlyIn(List<String> lines, List<String> others) {
        List<String> only = new ArrayList<>(lines);
        only.removeAll(others);
        return only.toString();
    }

    void unreadable(String text, int place) {
        MicroMachine x = new MicroMachine();
        type(x, text);
        refused("word of " + text, BAD, () -> x.word(0));
        due("place of " + text, x.count(0), place);
        due("length behind " + text, x.count(1), 0);
        due("words behind " + text, x.count(2), 0);
    }

    void readable(String text, int parts) {
        MicroMachine x = new MicroMachine();
        int got = -1;
        type(x, text);
        try {
            got = x.word(0);
        } catch (IllegalArgumentException e) {
            System.out.println(text + " can't be read from " + x.count(0));
        }
        due("parts of " + text, got, parts);
        due("place of " + text, x.count(0), -1);
        due("words behind " + text, x.count(2), 1);
    }

    void end() {
        System.out.println(wrong == 0 ? "all answers are as due" : wrong + " answers are not as due");
        if (wrong != 0) {
            System.exit(1);
        }
    }

    static long packed(String text) {
        long eight = 0;
        for (int i = 0; i < text.length(); i++) {
            eight = eight << 8 | text.charAt(i);
        }
        return eight;
    }

    static void type(MicroMachine x, String text) {
        for (int i = 0; i < text.length(); i += 8) {
            x.type(packed(text.substring(i, Math.min(i + 8, text.length()))));
        }
    }

    static int word(MicroMachine x, int i, String text) {
        type(x, text);
        return x.word(i);
    }

    /** A new machine with these texts as its words 0, 1, .. */
    static MicroMachine machine(String... texts) {
        MicroMachine x = new MicroMachine();
        for (int i = 0; i < texts.length; i++) {
            word(x, i, texts[i]);
        }
        return x;
    }

    static MicroMachine typed(String text) {
        MicroMachine x = new MicroMachine();
        type(x, text);
        return x;
    }
}
