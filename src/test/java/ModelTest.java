import java.util.Random;
import java.util.function.IntSupplier;

/** All promises: rows of any calls, refused ones among them, answered by a machine and by the Model. */
public final class ModelTest {
    private static final int MACHINES = 3000;
    private static final int CALLS = 512;
    // Words are put where others go to, so that runs are not all short.
    private static final int WORDS = 8;

    private static final Check CHECK = new Check();
    private static final Grammar GRAMMAR = new Grammar();
    private static final int[] EDGES = {-1, 64, 65, 255, 256, 500, 501, Check.LOWEST, Check.HIGHEST};

    private final Random random;
    private final String which;
    private final MicroMachine x = new MicroMachine();
    private final Model model = new Model();
    private int calls;

    private ModelTest(int seed) {
        random = new Random(seed);
        which = "machine " + seed + ", call ";
    }

    public static void main(String[] args) {
        for (int seed = 0; seed < MACHINES; seed++) {
            new ModelTest(seed).useUp();
        }
        CHECK.end();
    }

    private void useUp() {
        for (int i = 0; i < WORDS; i++) {
            putWord(GRAMMAR.anyText(random, WORDS), i);
        }
        // What one round calls at most is kept free at the end.
        while (calls < CALLS - 30) {
            step();
            look();
        }
    }

    private void step() {
        switch (random.nextInt(9)) {
            case 0:
                putWord(Grammar.spoiled(GRAMMAR.anyText(random, WORDS), random), index(WORDS));
                break;
            case 1:
                type(anyEight());
                break;
            case 2:
                change();
                break;
            case 3:
                int begun = index(WORDS);
                answer("begin " + begun, () -> done(() -> x.begin(begun)), () -> model.begin(begun));
                break;
            case 4:
                int r = random.nextInt(3) == 0 ? index(10) : random.nextInt(2) * 2;
                int v = random.nextInt(4) == 0 ? random.nextInt() : index(64);
                answer("set " + r + ", " + v, () -> done(() -> x.set(r, v)), () -> model.set(r, v));
                break;
            default:
                int n = random.nextInt(8) == 0 ? index(501) : 1 + random.nextInt(5);
                answer("run " + n, () -> x.run(n), () -> model.run(n));
        }
    }

    private void change() {
        int i = index(64);
        int v = random.nextInt(4) == 0 ? random.nextInt() : index(256);
        switch (random.nextInt(3)) {
            case 0:
                answer("poke " + i + ", " + v, () -> done(() -> x.poke(i, v)), () -> model.poke(i, v));
                break;
            case 1:
                answer("code " + i + ", " + v, () -> done(() -> x.code(i, v)), () -> model.code(i, v));
                break;
            default:
                int erased = index(WORDS);
                answer("erase " + erased, () -> done(() -> x.erase(erased)), () -> model.erase(erased));
        }
    }

    private void look() {
        int what = index(10);
        int r = index(10);
        int i = index(64);
        int k = index(7);
        int told = index(WORDS);
        answer("count " + what, () -> x.count(what), () -> model.count(what));
        answer("register " + r, () -> x.register(r), () -> model.register(r));
        answer("memory " + i, () -> x.memory(i), () -> model.memory(i));
        answer("told " + told + ", " + k, () -> x.told(told, k), () -> model.told(told, k));
        answer("register 1", () -> x.register(1), () -> model.register(1));
        answer("register 9", () -> x.register(9), () -> model.register(9));
    }

    /** Most often a number from 0 below the bound, else one of the edges. */
    private int index(int bound) {
        return random.nextInt(12) == 0 ? EDGES[random.nextInt(EDGES.length)] : random.nextInt(bound);
    }

    private void putWord(String text, int i) {
        for (int from = 0; from < text.length(); ) {
            int until = Math.min(text.length(), from + 3 + random.nextInt(6));
            type(Check.packed(text.substring(from, until)));
            from = until;
        }
        answer("word " + i, () -> x.word(i), () -> model.word(i));
    }

    private void type(long eight) {
        answer("type " + eight, () -> x.type(eight), () -> model.type(eight));
    }

    /** Bytes that are most often right or 0. */
    private long anyEight() {
        long eight = 0;
        for (int i = 0; i < 8; i++) {
            int c = random.nextInt(40) == 0 ? random.nextInt(256) : 33 + random.nextInt(94);
            eight = eight << 8 | (random.nextInt(3) == 0 ? 0 : c);
        }
        return eight;
    }

    private static int done(Runnable call) {
        call.run();
        return 0;
    }

    private void answer(String call, IntSupplier got, IntSupplier want) {
        calls++;
        CHECK.due(which + calls + ": " + call, told(got), told(want));
    }

    private static String told(IntSupplier call) {
        try {
            return String.valueOf(call.getAsInt());
        } catch (RuntimeException e) {
            return e.getClass().getSimpleName();
        }
    }
}
