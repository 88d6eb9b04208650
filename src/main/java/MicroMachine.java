import java.util.NoSuchElementException;

/**
 * A machine below the machine: words of a control store, read from text, say in each cycle what is
 * put on the buses, what the unit for arithmetic does with it, where it goes, what is asked of
 * memory, and which word follows.
 */
public final class MicroMachine {
    private static final int SIZE = 64;
    private static final int LONGEST_TEXT = 40;
    private static final int MOST_CYCLES = 500;
    private static final int MOST_TARGETS = 4;
    private static final int LARGEST_BYTE = 255;

    // A name's place here is the number of its register; U is the byte M once more, without its sign.
    private static final String NAMES = "ADPSLCTOHMU";
    private static final int A = 0;
    private static final int D = 1;
    private static final int P = 2;
    private static final int H = 8;
    private static final int M = 9;
    private static final int REGISTERS = 10;

    private static final int ZERO = 0;
    private static final int ONE = 1;
    private static final int MINUS_ONE = 2;
    private static final int B_ALONE = 3;
    private static final int B_PLUS_ONE = 4;
    private static final int B_MINUS_ONE = 5;
    private static final int B_MINUS_H = 6;
    private static final int NOT_B = 7;
    private static final int H_ALONE = 8;
    private static final int H_PLUS_ONE = 9;
    private static final int H_PLUS_B = 10;
    private static final int H_PLUS_B_PLUS_ONE = 11;
    private static final int H_AND_B = 12;
    private static final int H_OR_B = 13;
    private static final int NOT_H = 14;
    private static final int MINUS_H = 15;

    private static final int SHIFT_LEFT = 1;
    private static final int SHIFT_RIGHT = 2;

    private static final int ASKS_READ = 1;
    private static final int ASKS_WRITE = 2;

    // A letter's place here, and one more, is the number of its GOING; 0 is none.
    private static final String GOINGS = "gznm";
    private static final int GO = 1;
    private static final int GO_IF_ZERO = 2;
    private static final int GO_IF_NEGATIVE = 3;
    private static final int GO_BY_BYTE = 4;

    private final WordReader reader = new WordReader();
    private int wrongPlace = -1;

    private final Word[] store = new Word[SIZE];
    private int wordsThere;
    private int atHand;

    private final int[] registers = new int[REGISTERS];
    private final int[] cells = new int[SIZE];
    private final int[] bytes = new int[SIZE];

    private boolean wordComes;
    private int comingWord;
    private boolean byteComes;
    private int comingByte;

    private int cyclesDone;
    private int wordsRead;
    private int wordsWritten;
    private int bytesRead;

    public MicroMachine() {
    }

    public int type(long eight) throws IllegalArgumentException, IllegalStateException {
        int added = 0;
        for (int shift = 56; shift >= 0; shift -= 8) {
            int c = byteOf(eight, shift);
            if (c != 0 && (c < 33 || c > 126)) {
                throw new IllegalArgumentException();
            }
            added += c != 0 ? 1 : 0;
        }
        if (reader.length + added > LONGEST_TEXT) {
            throw new IllegalStateException();
        }
        for (int shift = 56; shift >= 0; shift -= 8) {
            int c = byteOf(eight, shift);
            if (c != 0) {
                reader.add((char) c);
            }
        }
        return reader.length;
    }

    public int word(int i) throws IllegalArgumentException {
        refuseOutside(i, SIZE);
        Word read = reader.read();
        reader.length = 0;
        if (read == null) {
            wrongPlace = reader.at;
            throw new IllegalArgumentException();
        }
        if (store[i] == null) {
            wordsThere++;
        }
        store[i] = read;
        return read.parts;
    }

    public void erase(int i) throws IllegalArgumentException, NoSuchElementException {
        refuseOutside(i, SIZE);
        if (store[i] == null) {
            throw new NoSuchElementException();
        }
        store[i] = null;
        wordsThere--;
    }

    public void begin(int i) throws IllegalArgumentException {
        refuseOutside(i, SIZE);
        atHand = i;
        wordComes = false;
        byteComes = false;
    }

    public int run(int n) throws IllegalArgumentException, NoSuchElementException, IndexOutOfBoundsException {
        if (n < 1 || n > MOST_CYCLES) {
            throw new IllegalArgumentException();
        }
        for (int i = 0; i < n; i++) {
            Word w = store[atHand];
            if (w == null) {
                throw new NoSuchElementException();
            }
            doCycle(w);
        }
        return atHand;
    }

    public void set(int r, int v) throws IllegalArgumentException {
        refuseOutside(r, REGISTERS);
        if (r == M) {
            refuseOutside(v, LARGEST_BYTE + 1);
        }
        registers[r] = v;
    }

    public int register(int r) throws IllegalArgumentException {
        refuseOutside(r, REGISTERS);
        return registers[r];
    }

    public void poke(int i, int v) throws IllegalArgumentException {
        refuseOutside(i, SIZE);
        cells[i] = v;
    }

    public int memory(int i) throws IllegalArgumentException {
        refuseOutside(i, SIZE);
        return cells[i];
    }

    public void code(int i, int v) throws IllegalArgumentException {
        refuseOutside(i, SIZE);
        refuseOutside(v, LARGEST_BYTE + 1);
        bytes[i] = v;
    }

    public int told(int i, int what) throws IllegalArgumentException, NoSuchElementException {
        refuseOutside(i, SIZE);
        refuseOutside(what, 7);
        Word w = store[i];
        if (w == null) {
            throw new NoSuchElementException();
        }
        switch (what) {
            case 0:
                return w.targets;
            case 1:
                return w.asksWord;
            case 2:
                return w.asksByte ? 1 : 0;
            case 3:
                return w.going;
            case 4:
                return w.first;
            case 5:
                return w.second;
            default:
                return w.shift;
        }
    }

    public int count(int what) {
        switch (what) {
            case 0:
                return wrongPlace;
            case 1:
                return reader.length;
            case 2:
                return wordsThere;
            case 3:
                return atHand;
            case 4:
                return cyclesDone;
            case 5:
                return wordComes ? 1 : 0;
            case 6:
                return byteComes ? 1 : 0;
            case 7:
                return wordsRead;
            case 8:
                return wordsWritten;
            case 9:
                return bytesRead;
            default:
                return -1;
        }
    }

    private static int byteOf(long eight, int shift) {
        return (int) (eight >>> shift) & LARGEST_BYTE;
    }

    private static boolean isOutside(int i, int bound) {
        return i < 0 || i >= bound;
    }

    private static void refuseOutside(int i, int bound) {
        if (isOutside(i, bound)) {
            throw new IllegalArgumentException();
        }
    }

    private void doCycle(Word w) {
        int value = valueOf(w);
        int shifted = shiftedBy(w.shift, value);
        // A and P are looked at before anything is changed: a refused cycle leaves no trace.
        int a = w.sets(A) ? shifted : registers[A];
        int p = w.sets(P) ? shifted : registers[P];
        if ((w.asksWord != 0 && isOutside(a, SIZE)) || (w.asksByte && isOutside(p, SIZE))) {
            throw new IndexOutOfBoundsException();
        }
        for (int r = 0; r <= H; r++) {
            if (w.sets(r)) {
                registers[r] = shifted;
            }
        }
        askForWord(w.asksWord, a);
        askForByte(w.asksByte, p);
        atHand = wordBehind(w, value);
        cyclesDone++;
    }

    private int valueOf(Word w) {
        int b = busOf(w.source);
        int h = registers[H];
        switch (w.operation) {
            case ONE:
                return 1;
            case MINUS_ONE:
                return -1;
            case B_ALONE:
                return b;
            case B_PLUS_ONE:
                return b + 1;
            case B_MINUS_ONE:
                return b - 1;
            case B_MINUS_H:
                return b - h;
            case NOT_B:
                return ~b;
            case H_ALONE:
                return h;
            case H_PLUS_ONE:
                return h + 1;
            case H_PLUS_B:
                return h + b;
            case H_PLUS_B_PLUS_ONE:
                return h + b + 1;
            case H_AND_B:
                return h & b;
            case H_OR_B:
                return h | b;
            case NOT_H:
                return ~h;
            case MINUS_H:
                return -h;
            default:
                return 0;
        }
    }

    private int busOf(int source) {
        if (source == M) {
            return (byte) registers[M];
        }
        return source > M ? registers[M] : registers[source];
    }

    private static int shiftedBy(int shift, int value) {
        if (shift == SHIFT_LEFT) {
            return value << 8;
        }
        return shift == SHIFT_RIGHT ? value >> 1 : value;
    }

    /** Asks, and lets come what the cycle before took: D is written before it changes. */
    private void askForWord(int asked, int a) {
        boolean comes = wordComes;
        int coming = comingWord;
        wordComes = asked == ASKS_READ;
        if (asked == ASKS_READ) {
            comingWord = cells[a];
            wordsRead++;
        } else if (asked == ASKS_WRITE) {
            cells[a] = registers[D];
            wordsWritten++;
        }
        if (comes) {
            registers[D] = coming;
        }
    }

    private void askForByte(boolean asked, int p) {
        boolean comes = byteComes;
        int coming = comingByte;
        byteComes = asked;
        if (asked) {
            comingByte = bytes[p];
            bytesRead++;
        }
        if (comes) {
            registers[M] = coming;
        }
    }

    private int wordBehind(Word w, int value) {
        switch (w.going) {
            case GO:
                return w.first;
            case GO_IF_ZERO:
                return value == 0 ? w.first : w.second;
            case GO_IF_NEGATIVE:
                return value < 0 ? w.first : w.second;
            case GO_BY_BYTE:
                return (Math.max(w.first, 0) | registers[M]) & (SIZE - 1);
            default:
                return (atHand + 1) & (SIZE - 1);
        }
    }

    /** A WORD as it was read; what it starts with holds where a PART or a NUMBER is not there. */
    private static final class Word {
        private int parts;
        private int targets;
        private int operation = ZERO;
        private int source;
        private int shift;
        private int asksWord;
        private boolean asksByte;
        private int going;
        private int first = -1;
        private int second = -1;

        private boolean sets(int r) {
            return (targets >> r & 1) != 0;
        }
    }

    /**
     * Keeps the text and reads a WORD from it. Every step stops before the first character that
     * can't stand where it is, so that at is THE PLACE when the text can't be read.
     */
    private static final class WordReader {
        private static final int SETTING = 0;
        private static final int BYTE_ASKING = 1;
        private static final int WORD_ASKING = 2;
        private static final int GOING = 3;

        private final char[] text = new char[LONGEST_TEXT];
        private int length;
        private int at;
        private Word draft = new Word();

        private void add(char c) {
            if (length < LONGEST_TEXT) {
                text[length] = c;
                length++;
            }
        }

        /** The WORD of the text, or null if it can't be read. */
        private Word read() {
            at = 0;
            draft = new Word();
            for (int kind = SETTING; kind <= GOING; kind++) {
                int before = at;
                if (!readIfThere(kind)) {
                    return null;
                }
                if (at > before) {
                    draft.parts++;
                    if (at == length) {
                        return draft;
                    }
                    // Nothing stands behind a GOING, not even the ; that would part it off.
                    if (kind == GOING || !take(';')) {
                        return null;
                    }
                }
            }
            return null;
        }

        /** Reads a PART of the kind, or nothing if none begins here; false if one breaks off. */
        private boolean readIfThere(int kind) {
            switch (kind) {
                case SETTING:
                    return readSetting();
                case BYTE_ASKING:
                    draft.asksByte = take('f');
                    return true;
                case WORD_ASKING:
                    draft.asksWord = take('r') ? ASKS_READ : take('w') ? ASKS_WRITE : 0;
                    return true;
                default:
                    return readGoing();
            }
        }

        private boolean readSetting() {
            for (int i = 0; i < MOST_TARGETS && isAtTarget(); i++) {
                draft.targets |= 1 << NAMES.indexOf(text[at]);
                at++;
                if (!take('=')) {
                    return false;
                }
            }
            if (draft.targets == 0) {
                return true;
            }
            if (!readValue()) {
                return false;
            }
            draft.shift = take('<') ? SHIFT_LEFT : take('>') ? SHIFT_RIGHT : 0;
            return true;
        }

        private boolean isAtTarget() {
            int name = at < length ? NAMES.indexOf(text[at]) : -1;
            if (name < 0 || name > H || draft.sets(name)) {
                return false;
            }
            // Behind the first =, a name may be the VALUE's: only A, which no VALUE has, is not.
            boolean isNamedSurely = draft.targets == 0 || name == A;
            return isNamedSurely || (at + 1 < length && text[at + 1] == '=');
        }

        private boolean readValue() {
            if (take('0')) {
                return does(ZERO);
            }
            if (take('1')) {
                return does(ONE);
            }
            if (take('-')) {
                return take('1') ? does(MINUS_ONE) : take('H') && does(MINUS_H);
            }
            if (take('!')) {
                return take('H') ? does(NOT_H) : takeSource() && does(NOT_B);
            }
            if (take('H')) {
                return readBehindH();
            }
            return takeSource() && readBehindSource();
        }

        private boolean readBehindH() {
            if (take('&')) {
                return takeSource() && does(H_AND_B);
            }
            if (take('|')) {
                return takeSource() && does(H_OR_B);
            }
            if (!take('+')) {
                return does(H_ALONE);
            }
            if (take('1')) {
                return does(H_PLUS_ONE);
            }
            if (!takeSource()) {
                return false;
            }
            return take('+') ? take('1') && does(H_PLUS_B_PLUS_ONE) : does(H_PLUS_B);
        }

        private boolean readBehindSource() {
            if (take('+')) {
                return take('1') && does(B_PLUS_ONE);
            }
            if (take('-')) {
                return take('1') ? does(B_MINUS_ONE) : take('H') && does(B_MINUS_H);
            }
            return does(B_ALONE);
        }

        /** Notes what the unit does, and is true so that it can end a reading. */
        private boolean does(int operation) {
            draft.operation = operation;
            return true;
        }

        private boolean readGoing() {
            draft.going = at < length ? GOINGS.indexOf(text[at]) + 1 : 0;
            if (draft.going == 0) {
                return true;
            }
            at++;
            if (draft.going == GO_BY_BYTE && at == length) {
                return true;
            }
            draft.first = takeNumber();
            if (draft.going == GO || draft.going == GO_BY_BYTE) {
                return draft.first >= 0;
            }
            if (draft.first < 0 || !take(',')) {
                return false;
            }
            draft.second = takeNumber();
            return draft.second >= 0;
        }

        /** The NUMBER here, or -1; a digit that would make it too large is left standing. */
        private int takeNumber() {
            int number = takeDigit(9);
            if (number < 0) {
                return -1;
            }
            int second = takeDigit(SIZE - 1 - 10 * number);
            return second < 0 ? number : 10 * number + second;
        }

        private int takeDigit(int largest) {
            int digit = at < length ? text[at] - '0' : -1;
            if (digit < 0 || digit > 9 || digit > largest) {
                return -1;
            }
            at++;
            return digit;
        }

        private boolean takeSource() {
            int name = at < length ? NAMES.indexOf(text[at]) : -1;
            if (name <= A || name == H) {
                return false;
            }
            draft.source = name;
            at++;
            return true;
        }

        private boolean take(char c) {
            if (at >= length || text[at] != c) {
                return false;
            }
            at++;
            return true;
        }
    }
}
