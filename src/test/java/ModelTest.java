import java.util.NoSuchElementException;
import java.util.Random;

/** Promise 6 and all that tells of it: many machines against a model that works on the texts. */
public final class ModelTest {
    private static final String NAMES = "ADPSLCTOHM";
    private static final int WORDS = 14;
    private static final int STEPS = 12;

    private static final Grammar GRAMMAR = new Grammar();

    public static void main(String[] args) {
        Check check = new Check();
        Random random = new Random(4711);
        for (int i = 0; i < 4000; i++) {
            compare(check, random, "machine " + i);
        }
        check.end();
    }

    private static void compare(Check check, Random random, String which) {
        MicroMachine x = new MicroMachine();
        Model model = new Model();
        for (int i = 0; i < WORDS; i++) {
            model.texts[i] = GRAMMAR.anyText(random, WORDS);
            Check.word(x, i, model.texts[i]);
        }
        for (int i = 0; i < 6; i++) {
            int at = random.nextInt(64);
            model.memory[at] = random.nextInt(90) - 5;
            x.poke(at, model.memory[at]);
            model.code[at] = random.nextInt(256);
            x.code(at, model.code[at]);
        }
        for (int step = 0; step < STEPS; step++) {
            change(random, x, model);
            String where = which + ", step " + step;
            int n = 1 + random.nextInt(random.nextInt(8) == 0 ? 500 : 5);
            check.due(where + ": run", ended(x, n), model.run(n));
            for (int r = 0; r < 10; r++) {
                check.due(where + ": register " + r, x.register(r), model.registers[r]);
            }
            for (int what = 3; what < 10; what++) {
                check.due(where + ": count " + what, x.count(what), model.count(what));
            }
        }
        for (int i = 0; i < 64; i++) {
            check.due(which + ": memory " + i, x.memory(i), model.memory[i]);
        }
    }

    private static void change(Random random, MicroMachine x, Model model) {
        int r = random.nextInt(10);
        int v = r == 9 || random.nextInt(3) > 0 ? random.nextInt(64) : random.nextInt();
        x.set(r, v);
        model.registers[r] = v;
        if (model.texts[model.at] == null || random.nextInt(6) == 0) {
            int i = random.nextInt(WORDS);
            x.begin(i);
            model.begin(i);
        }
    }

    /** The word at hand, or -1 for missing, -2 for outside. */
    private static int ended(MicroMachine x, int n) {
        try {
            return x.run(n);
        } catch (NoSuchElementException e) {
            return -1;
        } catch (IndexOutOfBoundsException e) {
            return -2;
        }
    }

    private static final class Model {
        final String[] texts = new String[64];
        final int[] registers = new int[10];
        final int[] memory = new int[64];
        final int[] code = new int[64];
        final int[] counts = new int[10];
        int at;
        Integer comingWord;
        Integer comingByte;

        void begin(int i) {
            at = i;
            comingWord = null;
            comingByte = null;
        }

        int count(int what) {
            switch (what) {
                case 3:
                    return at;
                case 5:
                    return comingWord == null ? 0 : 1;
                case 6:
                    return comingByte == null ? 0 : 1;
                default:
                    return counts[what];
            }
        }

        int run(int n) {
            for (int i = 0; i < n; i++) {
                if (texts[at] == null) {
                    return -1;
                }
                int[] before = registers.clone();
                if (!cycle(";" + texts[at] + ";")) {
                    System.arraycopy(before, 0, registers, 0, before.length);
                    return -2;
                }
                counts[4]++;
            }
            return at;
        }

        private boolean cycle(String text) {
            int value = 0;
            String setting = text.split(";")[1];
            int cut = setting.lastIndexOf('=');
            if (cut > 0) {
                String shown = setting.substring(cut + 1);
                value = valueOf(shown.replace("<", "").replace(">", ""));
                int shifted = shown.endsWith("<") ? value * 256 : shown.endsWith(">") ? Math.floorDiv(value, 2) : value;
                for (String target : setting.substring(0, cut).split("=")) {
                    registers[NAMES.indexOf(target)] = shifted;
                }
            }
            boolean reads = text.contains(";r;");
            boolean writes = text.contains(";w;");
            boolean fetches = text.contains(";f;");
            int a = registers[0];
            int p = registers[2];
            if ((reads || writes) && (a < 0 || a > 63) || fetches && (p < 0 || p > 63)) {
                return false;
            }
            Integer word = reads ? Integer.valueOf(memory[a]) : null;
            Integer fetched = fetches ? Integer.valueOf(code[p]) : null;
            if (writes) {
                memory[a] = registers[1];
            }
            counts[7] += reads ? 1 : 0;
            counts[8] += writes ? 1 : 0;
            counts[9] += fetches ? 1 : 0;
            registers[1] = comingWord == null ? registers[1] : comingWord;
            registers[9] = comingByte == null ? registers[9] : comingByte;
            comingWord = word;
            comingByte = fetched;
            go(text.substring(text.lastIndexOf(';', text.length() - 2) + 1, text.length() - 1), value);
            return true;
        }

        private void go(String last, int value) {
            String[] numbers = last.substring(1).split(",");
            switch (last.charAt(0)) {
                case 'g':
                    at = Integer.parseInt(numbers[0]);
                    break;
                case 'z':
                    at = Integer.parseInt(numbers[value == 0 ? 0 : 1]);
                    break;
                case 'n':
                    at = Integer.parseInt(numbers[value < 0 ? 0 : 1]);
                    break;
                case 'm':
                    at = ((numbers[0].isEmpty() ? 0 : Integer.parseInt(numbers[0])) | registers[9]) % 64;
                    break;
                default:
                    at = (at + 1) % 64;
            }
        }

        private int valueOf(String value) {
            if (value.startsWith("!")) {
                return -1 - termOf(value.substring(1));
            }
            if (value.contains("&")) {
                return termOf("H") & termOf(value.substring(2));
            }
            if (value.contains("|")) {
                return termOf("H") | termOf(value.substring(2));
            }
            int sum = 0;
            for (String term : value.replace("-", "+-").split("\\+")) {
                if (!term.isEmpty()) {
                    sum += term.startsWith("-") ? -termOf(term.substring(1)) : termOf(term);
                }
            }
            return sum;
        }

        private int termOf(String term) {
            switch (term) {
                case "0":
                    return 0;
                case "1":
                    return 1;
                case "U":
                    return registers[9];
                case "M":
                    return registers[9] < 128 ? registers[9] : registers[9] - 256;
                default:
                    return registers[NAMES.indexOf(term)];
            }
        }
    }
}
