import java.nio.ByteBuffer;
import java.nio.charset.StandardCharsets;
import java.util.NoSuchElementException;

/**
 * The whole machine once more, written down after the document and not after the class: it keeps the
 * texts as they were typed and works on them, so that a slip in one is not a slip in both.
 */
final class Model {
    private static final String NAMES = "ADPSLCTOHM";
    private static final Grammar GRAMMAR = new Grammar();

    private String text = "";
    private int place = -1;
    private final String[] texts = new String[64];
    private int[] registers = new int[10];
    private final int[] memory = new int[64];
    private final int[] code = new int[64];
    private final int[] counts = new int[10];
    private int at;
    private Integer comingWord;
    private Integer comingByte;

    int type(long eight) {
        byte[] bytes = ByteBuffer.allocate(8).putLong(eight).array();
        String more = new String(bytes, StandardCharsets.ISO_8859_1).replace("\0", "");
        must(more.chars().allMatch(c -> c > 32 && c < 127));
        if ((text + more).length() > 40) {
            throw new IllegalStateException();
        }
        text += more;
        return text.length();
    }

    int word(int i) {
        must(i >= 0 && i < 64);
        String typed = text;
        text = "";
        int parts = GRAMMAR.partsOf(typed);
        if (parts < 0) {
            place = GRAMMAR.placeOf(typed);
        }
        must(parts > 0);
        texts[i] = typed;
        return parts;
    }

    int erase(int i) {
        must(i >= 0 && i < 64);
        mustBeThere(i);
        texts[i] = null;
        return 0;
    }

    int begin(int i) {
        must(i >= 0 && i < 64);
        at = i;
        comingWord = null;
        comingByte = null;
        return 0;
    }

    int run(int n) {
        must(n >= 1 && n <= 500);
        for (int i = 0; i < n; i++) {
            mustBeThere(at);
            int[] before = registers.clone();
            if (!cycle(";" + texts[at] + ";")) {
                registers = before;
                throw new IndexOutOfBoundsException();
            }
            counts[4]++;
        }
        return at;
    }

    int set(int r, int v) {
        must(r >= 0 && r < 10 && (r < 9 || v >= 0 && v < 256));
        registers[r] = v;
        return 0;
    }

    int register(int r) {
        must(r >= 0 && r < 10);
        return registers[r];
    }

    int poke(int i, int v) {
        must(i >= 0 && i < 64);
        memory[i] = v;
        return 0;
    }

    int memory(int i) {
        must(i >= 0 && i < 64);
        return memory[i];
    }

    int code(int i, int v) {
        must(i >= 0 && i < 64 && v >= 0 && v < 256);
        code[i] = v;
        return 0;
    }

    int told(int i, int what) {
        must(i >= 0 && i < 64 && what >= 0 && what < 7);
        mustBeThere(i);
        String whole = ";" + texts[i] + ";";
        String last = texts[i].substring(texts[i].lastIndexOf(';') + 1);
        int going = "gznm".indexOf(last.charAt(0)) + 1;
        String[] numbers = going > 0 ? last.substring(1).split(",") : new String[] {""};
        switch (what) {
            case 0:
                return targetsOf(whole);
            case 1:
                return whole.contains(";r;") ? 1 : whole.contains(";w;") ? 2 : 0;
            case 2:
                return whole.contains(";f;") ? 1 : 0;
            case 3:
                return going;
            case 4:
                return numbers[0].isEmpty() ? -1 : Integer.parseInt(numbers[0]);
            case 5:
                return numbers.length < 2 ? -1 : Integer.parseInt(numbers[1]);
            default:
                return whole.contains("<") ? 1 : whole.contains(">") ? 2 : 0;
        }
    }

    int count(int what) {
        switch (what) {
            case 0:
                return place;
            case 1:
                return text.length();
            case 2:
                int there = 0;
                for (String word : texts) {
                    there += word == null ? 0 : 1;
                }
                return there;
            case 3:
                return at;
            case 5:
                return comingWord == null ? 0 : 1;
            case 6:
                return comingByte == null ? 0 : 1;
            default:
                return what < 0 || what > 9 ? -1 : counts[what];
        }
    }

    private static void must(boolean isRight) {
        if (!isRight) {
            throw new IllegalArgumentException();
        }
    }

    private void mustBeThere(int i) {
        if (texts[i] == null) {
            throw new NoSuchElementException();
        }
    }

    private static int targetsOf(String whole) {
        int bits = 0;
        for (int r = 0; r < 9; r++) {
            bits += whole.contains(NAMES.charAt(r) + "=") ? 1 << r : 0;
        }
        return bits;
    }

    private boolean cycle(String whole) {
        int value = 0;
        String setting = whole.split(";")[1];
        int cut = setting.lastIndexOf('=');
        if (cut > 0) {
            String shown = setting.substring(cut + 1);
            value = valueOf(shown.replace("<", "").replace(">", ""));
            int shifted = shown.endsWith("<") ? value * 256 : shown.endsWith(">") ? Math.floorDiv(value, 2) : value;
            for (String target : setting.substring(0, cut).split("=")) {
                registers[NAMES.indexOf(target)] = shifted;
            }
        }
        boolean reads = whole.contains(";r;");
        boolean writes = whole.contains(";w;");
        boolean fetches = whole.contains(";f;");
        int a = registers[0];
        int p = registers[2];
        if ((reads || writes) && (a < 0 || a > 63) || fetches && (p < 0 || p > 63)) {
            return false;
        }
        Integer word = reads ? Integer.valueOf(memory[a]) : null;
        Integer fetched = fetches ? Integer.valueOf(code[p]) : null;
        if (writes) {
            memory[a] = registers[1];
        }
        counts[7] += reads ? 1 : 0;
        counts[8] += writes ? 1 : 0;
        counts[9] += fetches ? 1 : 0;
        registers[1] = comingWord == null ? registers[1] : comingWord;
        registers[9] = comingByte == null ? registers[9] : comingByte;
        comingWord = word;
        comingByte = fetched;
        go(whole.substring(whole.lastIndexOf(';', whole.length() - 2) + 1, whole.length() - 1), value);
        return true;
    }

    private void go(String last, int value) {
        String[] numbers = last.substring(1).split(",");
        switch (last.charAt(0)) {
            case 'g':
                at = Integer.parseInt(numbers[0]);
                break;
            case 'z':
                at = Integer.parseInt(numbers[value == 0 ? 0 : 1]);
                break;
            case 'n':
                at = Integer.parseInt(numbers[value < 0 ? 0 : 1]);
                break;
            case 'm':
                at = ((numbers[0].isEmpty() ? 0 : Integer.parseInt(numbers[0])) | registers[9]) % 64;
                break;
            default:
                at = (at + 1) % 64;
        }
    }

    private int valueOf(String value) {
        if (value.startsWith("!")) {
            return -1 - termOf(value.substring(1));
        }
        if (value.contains("&")) {
            return termOf("H") & termOf(value.substring(2));
        }
        if (value.contains("|")) {
            return termOf("H") | termOf(value.substring(2));
        }
        int sum = 0;
        for (String term : value.replace("-", "+-").split("\\+")) {
            if (!term.isEmpty()) {
                sum += term.startsWith("-") ? -termOf(term.substring(1)) : termOf(term);
            }
        }
        return sum;
    }

    private int termOf(String term) {
        switch (term) {
            case "0":
                return 0;
            case "1":
                return 1;
            case "U":
                return registers[9];
            case "M":
                return registers[9] < 128 ? registers[9] : registers[9] - 256;
            default:
                return registers[NAMES.indexOf(term)];
        }
    }
}
