import java.util.NoSuchElementException;

/** What the tests share: comparing answers, typing texts, and the end with its exit code. */
final class Check {
    static final Class<? extends RuntimeException> BAD = IllegalArgumentException.class;
    static final Class<? extends RuntimeException> MISSING = NoSuchElementException.class;
    static final Class<? extends RuntimeException> FULL = IllegalStateException.class;
    static final Class<? extends RuntimeException> OUTSIDE = IndexOutOfBoundsException.class;

    interface Call {
        void make();
    }

    private int wrong;

    void due(String what, long got, long want) {
        if (got != want) {
            wrong++;
            System.out.println(what + " answered " + got + ", due is " + want);
        }
    }

    /** The call throws just this class, not one below it. */
    void refused(String what, Class<? extends RuntimeException> want, Call call) {
        Class<?> got = null;
        try {
            call.make();
        } catch (RuntimeException e) {
            got = e.getClass();
        }
        if (got != want) {
            wrong++;
            System.out.println(what + " threw " + got + ", due is " + want);
        }
    }

    void unreadable(String text, int place) {
        MicroMachine x = new MicroMachine();
        type(x, text);
        refused("word of " + text, BAD, () -> x.word(0));
        due("place of " + text, x.count(0), place);
        due("length behind " + text, x.count(1), 0);
        due("words behind " + text, x.count(2), 0);
    }

    void end() {
        System.out.println(wrong == 0 ? "all answers are as due" : wrong + " answers are not as due");
        if (wrong != 0) {
            System.exit(1);
        }
    }

    static long packed(String text) {
        long eight = 0;
        for (int i = 0; i < text.length(); i++) {
            eight = eight << 8 | text.charAt(i);
        }
        return eight;
    }

    static void type(MicroMachine x, String text) {
        for (int i = 0; i < text.length(); i += 8) {
            x.type(packed(text.substring(i, Math.min(i + 8, text.length()))));
        }
    }

    static int word(MicroMachine x, int i, String text) {
        type(x, text);
        return x.word(i);
    }

    /** A new machine with these texts as its words 0, 1, .. */
    static MicroMachine machine(String... texts) {
        MicroMachine x = new MicroMachine();
        for (int i = 0; i < texts.length; i++) {
            word(x, i, texts[i]);
        }
        return x;
    }
}
