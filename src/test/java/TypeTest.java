/** Promise 2, and "A text has at most 40 characters." */
public final class TypeTest {
    private static final Check CHECK = new Check();
    private static final String EIGHT = "D=H+M+1<";

    public static void main(String[] args) {
        addsHighestFirst();
        leavesOutZeros();
        addsToTheText();
        takesBytesFrom33To126();
        refusesEveryOtherByte();
        refusesMoreThanForty();
        fillsAndEmpties();
        isBadBeforeItIsFull();
        changesNothingElse();
        CHECK.end();
    }

    /** The bytes of the text, at those of the eight places, highest first, whose bit is set. */
    private static long spread(String text, int places) {
        long eight = 0;
        int at = 0;
        for (int place = 7; place >= 0; place--) {
            if ((places >> place & 1) != 0) {
                eight |= (long) text.charAt(at) << 8 * place;
                at++;
            }
        }
        return eight;
    }

    private static void wasRead(String what, MicroMachine x) {
        CHECK.due(what + ": parts", x.word(0), 1);
        CHECK.due(what + ": registers", x.told(0, 0), 2);
        CHECK.due(what + ": shift", x.told(0, 6), 1);
        x.set(8, 6);
        x.set(9, 254);
        x.run(1);
        CHECK.due(what + ": D", x.register(1), 5 * 256);
    }

    /** "Adds the eight bytes of the number, highest first" */
    private static void addsHighestFirst() {
        MicroMachine x = new MicroMachine();
        CHECK.due("eight", x.type(Check.packed(EIGHT)), 8);
        wasRead("eight", x);
        MicroMachine y = new MicroMachine();
        y.type(Check.packed("1;r;g023"));
        CHECK.refused("word", Check.BAD, () -> y.word(0));
        CHECK.due("the highest is the first", y.count(0), 0);
        y.type(Check.packed("D=0;r;g;"));
        CHECK.refused("word", Check.BAD, () -> y.word(0));
        CHECK.due("the lowest is the last", y.count(0), 7);
    }

    /** "those that are 0 left out" */
    private static void leavesOutZeros() {
        CHECK.due("all eight are 0", new MicroMachine().type(0), 0);
        for (int places = 0; places < 256; places++) {
            MicroMachine x = new MicroMachine();
            int first = Integer.bitCount(places);
            String what = "places " + Integer.toBinaryString(places);
            CHECK.due(what, x.type(spread(EIGHT.substring(0, first), places)), first);
            CHECK.due(what + " and the rest", x.type(spread(EIGHT.substring(first), 255 - places)), 8);
            wasRead(what, x);
        }
    }

    /** "to the text"; "Answers its length." */
    private static void addsToTheText() {
        MicroMachine x = new MicroMachine();
        for (int i = 0; i < EIGHT.length(); i++) {
            CHECK.due("one by one", x.type(EIGHT.charAt(i)), i + 1);
            CHECK.due("count 1", x.count(1), i + 1);
            CHECK.due("nothing more", x.type(0), i + 1);
        }
        wasRead("one by one", x);
        CHECK.due("a new text begins at 0", x.type('g'), 1);
    }

    private static void takesBytesFrom33To126() {
        for (int c = 33; c <= 126; c++) {
            for (int place = 0; place < 8; place++) {
                MicroMachine x = Check.typed("g");
                CHECK.due("type " + c, x.type(withOne(c, place)), 9);
            }
        }
    }

    /** Eight bytes, all of them right but perhaps this one. */
    private static long withOne(int c, int place) {
        return Check.packed("AAAAAAAA") & ~(255L << 8 * place) | (long) c << 8 * place;
    }

    /** "One not 33 .. 126: bad"; "then none is added" */
    private static void refusesEveryOtherByte() {
        for (int c = 1; c < 256; c = c == 32 ? 127 : c + 1) {
            for (int place = 0; place < 8; place++) {
                MicroMachine x = Check.typed("g");
                long eight = withOne(c, place);
                long alone = (long) c << 8 * place;
                CHECK.refused("type " + c + " among others", Check.BAD, () -> x.type(eight));
                CHECK.refused("type " + c, Check.BAD, () -> x.type(alone));
                CHECK.due("length behind " + c, x.count(1), 1);
                CHECK.due("place behind " + c, x.count(0), -1);
            }
        }
        for (int c : new int[] {1, 32, 127, 128, 255}) {
            for (int place : new int[] {0, 3, 7}) {
                long eight = withOne(c, place);
                CHECK.refusedWithoutTrace("type " + c, Check.BAD, Busy::machine, x -> x.type(eight));
            }
        }
        for (long eight : new long[] {-1, Long.MIN_VALUE, Long.MAX_VALUE, 1}) {
            CHECK.refusedWithoutTrace("type " + eight, Check.BAD, Busy::machine, x -> x.type(eight));
        }
    }

    /** "more than 40 in all: IllegalStateException; then none is added" */
    private static void refusesMoreThanForty() {
        for (int length = 0; length <= 40; length++) {
            for (int more = 0; more <= 8; more++) {
                MicroMachine x = Check.typed("!".repeat(length));
                long eight = Check.packed("~".repeat(more));
                String what = length + " and " + more;
                if (length + more <= 40) {
                    CHECK.due(what, x.type(eight), length + more);
                    CHECK.due(what + ": length", x.count(1), length + more);
                } else {
                    CHECK.refused(what, Check.FULL, () -> x.type(eight));
                    CHECK.due(what + ": length", x.count(1), length);
                }
            }
        }
        for (int length : new int[] {33, 39, 40}) {
            String text = "D=H+1;g7" + "!".repeat(length - 8);
            long eight = Check.packed("12345678");
            CHECK.refusedWithoutTrace("full from " + length, Check.FULL, () -> Busy.machine("", text), x -> x.type(eight));
        }
    }

    private static void fillsAndEmpties() {
        MicroMachine x = new MicroMachine();
        for (int i = 1; i <= 5; i++) {
            CHECK.due("eight more", x.type(Check.packed("AAAAAAAA")), 8 * i);
        }
        CHECK.refused("one more", Check.FULL, () -> x.type('A'));
        CHECK.due("none more", x.type(0), 40);
        CHECK.refused("word", Check.BAD, () -> x.word(0));
        CHECK.due("there is room again", x.type(Check.packed("g1")), 2);
        CHECK.due("nothing is left of the full text", x.word(0), 1);
    }

    /** Both are wrong: the document names bad first. */
    private static void isBadBeforeItIsFull() {
        MicroMachine x = Check.typed("!".repeat(40));
        CHECK.refused("a wrong byte too many", Check.BAD, () -> x.type(' '));
        CHECK.refused("a wrong one among too many", Check.BAD, () -> x.type(Check.packed("a b")));
        CHECK.refused("a wrong one at the end of too many", Check.BAD, () -> x.type(Check.packed("ab\177")));
        CHECK.due("length", x.count(1), 40);
    }

    private static void changesNothingElse() {
        MicroMachine x = Busy.machine("r;f", "D=H");
        x.type(Check.packed("+1"));
        CHECK.alike("typed in two", x, Busy.machine("r;f", "D=H+1"));
    }
}
