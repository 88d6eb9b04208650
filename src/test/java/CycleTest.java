import java.util.function.Supplier;

/** The CYCLE and its five steps, as Terms tell them. */
public final class CycleTest {
    private static final Check CHECK = new Check();
    private static final int LOWEST = Check.LOWEST;
    private static final int HIGHEST = Check.HIGHEST;
    private static final String NAMES = "ADPSLCTOH";

    public static void main(String[] args) {
        worksOutValues();
        wrapsInts();
        turnsAllBits();
        usesEverySource();
        knowsTheByteWithAndWithoutSign();
        usesRegistersAsTheyAre();
        shifts();
        setsRegisters();
        asksAsRegistersAreNow();
        takesWhenAsked();
        letsComeOneCycleLater();
        writesBeforeWhatComes();
        readsWhatWasWritten();
        goesToTheNext();
        goes();
        goesByValueBeforeShifting();
        goesByByte();
        goesByByteAsItIsNow();
        asksWithinBounds();
        refusesOutsideBounds();
        looksAtPlacesBehindShifting();
        looksOnlyAtWhatIsAsked();
        doesNothingOfARefusedCycle();
        goesOnBehindARefusedCycle();
        CHECK.end();
    }

    private static int valueOf(String value, int h, int s) {
        MicroMachine x = Check.machine("T=" + value);
        x.set(8, h);
        x.set(3, s);
        x.run(1);
        return x.register(6);
    }

    /** "(1) the VALUE is worked out" */
    private static void worksOutValues() {
        int[] some = {0, 1, -1, 12, -7, 0x5555, LOWEST, HIGHEST};
        for (int h : some) {
            for (int s : some) {
                String with = " with " + h + ", " + s;
                CHECK.due("S" + with, valueOf("S", h, s), s);
                CHECK.due("H" + with, valueOf("H", h, s), h);
                CHECK.due("S+1" + with, valueOf("S+1", h, s), s + 1);
                CHECK.due("S-1" + with, valueOf("S-1", h, s), s - 1);
                CHECK.due("H+1" + with, valueOf("H+1", h, s), h + 1);
                CHECK.due("H+S" + with, valueOf("H+S", h, s), h + s);
                CHECK.due("H+S+1" + with, valueOf("H+S+1", h, s), h + s + 1);
                CHECK.due("S-H" + with, valueOf("S-H", h, s), s - h);
                CHECK.due("H&S" + with, valueOf("H&S", h, s), h & s);
                CHECK.due("H|S" + with, valueOf("H|S", h, s), h | s);
                CHECK.due("!S" + with, valueOf("!S", h, s), -s - 1);
                CHECK.due("!H" + with, valueOf("!H", h, s), -h - 1);
                CHECK.due("-H" + with, valueOf("-H", h, s), 0 - h);
                CHECK.due("0" + with, valueOf("0", h, s), 0);
                CHECK.due("1" + with, valueOf("1", h, s), 1);
                CHECK.due("-1" + with, valueOf("-1", h, s), -1);
            }
        }
    }

    /** "ints wrap" */
    private static void wrapsInts() {
        CHECK.due("S+1", valueOf("S+1", 0, HIGHEST), LOWEST);
        CHECK.due("S-1", valueOf("S-1", 0, LOWEST), HIGHEST);
        CHECK.due("H+1", valueOf("H+1", HIGHEST, 0), LOWEST);
        CHECK.due("H+S of the highest", valueOf("H+S", HIGHEST, HIGHEST), -2);
        CHECK.due("H+S of the lowest", valueOf("H+S", LOWEST, LOWEST), 0);
        CHECK.due("H+S, just not", valueOf("H+S", HIGHEST, LOWEST), -1);
        CHECK.due("H+S+1 by the one", valueOf("H+S+1", HIGHEST, 0), LOWEST);
        CHECK.due("H+S+1 of the highest", valueOf("H+S+1", HIGHEST, HIGHEST), -1);
        CHECK.due("H+S+1 of the lowest", valueOf("H+S+1", LOWEST, LOWEST), 1);
        CHECK.due("S-H below", valueOf("S-H", 1, LOWEST), HIGHEST);
        CHECK.due("S-H above", valueOf("S-H", -1, HIGHEST), LOWEST);
        CHECK.due("S-H of 0 and the lowest", valueOf("S-H", LOWEST, 0), LOWEST);
        CHECK.due("S-H of the lowest twice", valueOf("S-H", LOWEST, LOWEST), 0);
        CHECK.due("-H of the lowest", valueOf("-H", LOWEST, 0), LOWEST);
        CHECK.due("-H of the highest", valueOf("-H", HIGHEST, 0), LOWEST + 1);
        CHECK.due("n of what wraps", wentTo("S=H+1;n1,2", HIGHEST, 0), 1);
        CHECK.due("z of what wraps", wentTo("S=H+L;z1,2", LOWEST, 0), 1);
    }

    /** "! turns all bits" */
    private static void turnsAllBits() {
        int[][] pairs = {{0, -1}, {-1, 0}, {LOWEST, HIGHEST}, {HIGHEST, LOWEST}, {0x0F0F0F0F, 0xF0F0F0F0}};
        for (int[] pair : pairs) {
            CHECK.due("!H", valueOf("!H", pair[0], 5), pair[1]);
            CHECK.due("!S", valueOf("!S", 5, pair[0]), pair[1]);
        }
    }

    /** Every VALUE with every b. */
    private static void usesEverySource() {
        for (String b : "DPMUSLCTO".split("")) {
            int of = b.equals("M") ? -56 : b.equals("U") ? 200 : 1000 + 7 * NAMES.indexOf(b);
            int h = 1000 + 7 * 8;
            source("b", b, of);
            source("b+1", b, of + 1);
            source("b-1", b, of - 1);
            source("H+b", b, h + of);
            source("H+b+1", b, h + of + 1);
            source("b-H", b, of - h);
            source("H&b", b, h & of);
            source("H|b", b, h | of);
            source("!b", b, ~of);
        }
    }

    private static void source(String value, String b, int want) {
        String text = "A=" + value.replace("b", b);
        MicroMachine x = Check.machine(text);
        for (int r = 0; r < 9; r++) {
            x.set(r, 1000 + 7 * r);
        }
        x.set(9, 200);
        x.run(1);
        CHECK.due(text, x.register(0), want);
    }

    /** "M the byte with its sign, U without" */
    private static void knowsTheByteWithAndWithoutSign() {
        for (int v = 0; v < 256; v++) {
            MicroMachine x = Check.machine("H=M", "S=U");
            x.set(9, v);
            x.run(2);
            CHECK.due("M of " + v, x.register(8), v < 128 ? v : v - 256);
            CHECK.due("U of " + v, x.register(3), v);
            CHECK.due("the byte stays", x.register(9), v);
        }
    }

    /** "of the registers as they are" */
    private static void usesRegistersAsTheyAre() {
        MicroMachine x = Check.machine("H=S=D=A=H+S+1", "H=H+1", "D=D-1");
        x.set(8, 20);
        x.set(3, 21);
        x.run(3);
        CHECK.due("H", x.register(8), 43);
        CHECK.due("S", x.register(3), 42);
        CHECK.due("D", x.register(1), 41);
        CHECK.due("A", x.register(0), 42);
        CHECK.due("P", x.register(2), 0);
    }

    /** "< (eight to the left) or > (one to the right, the sign staying)" */
    private static void shifts() {
        CHECK.due("left", valueOf("H<", 0x01020304, 0), 0x02030400);
        CHECK.due("left of 1", valueOf("1<", 0, 0), 256);
        CHECK.due("left of -1", valueOf("-1<", 0, 0), -256);
        CHECK.due("left of 0", valueOf("0<", 0, 0), 0);
        CHECK.due("left into the sign", valueOf("H<", 0x00800000, 0), LOWEST);
        CHECK.due("left out of the sign", valueOf("H<", LOWEST, 0), 0);
        CHECK.due("left out of all", valueOf("H<", 0x01000000, 0), 0);
        CHECK.due("right", valueOf("S>", 0, 7), 3);
        CHECK.due("right of 1", valueOf("1>", 0, 0), 0);
        CHECK.due("right of -1", valueOf("-1>", 0, 0), -1);
        CHECK.due("right with the sign", valueOf("S>", 0, -7), -4);
        CHECK.due("right of the lowest", valueOf("S>", 0, LOWEST), LOWEST / 2);
        CHECK.due("right of the highest", valueOf("S>", 0, HIGHEST), HIGHEST / 2);
        CHECK.due("the whole value to the left", valueOf("H+S+1<", 1, 2), 1024);
        CHECK.due("the whole value to the right", valueOf("H+S+1>", 1, 3), 2);
        CHECK.due("what wrapped, to the right", valueOf("H+1>", HIGHEST, 0), LOWEST / 2);
    }

    /** "(2) It's SHIFTED, and goes into the registers of the SETTING." */
    private static void setsRegisters() {
        for (int bits = 1; bits < 512; bits++) {
            if (Integer.bitCount(bits) <= 4) {
                StringBuilder text = new StringBuilder();
                for (int r = 0; r < 9; r++) {
                    text.append((bits >> r & 1) != 0 ? NAMES.charAt(r) + "=" : "");
                }
                MicroMachine x = Check.machine(text + "-1<");
                x.run(1);
                for (int r = 0; r < 10; r++) {
                    CHECK.due(text + " and register " + r, x.register(r), (bits >> r & 1) != 0 ? -256 : 0);
                }
            }
        }
    }

    /** "(3) ASKING, with A, D and P as they are now" */
    private static void asksAsRegistersAreNow() {
        MicroMachine x = Check.machine("A=D=H;w", "A=S;w", "D=1;w");
        x.set(8, 63);
        x.run(3);
        CHECK.due("w with A and D as set in the cycle", x.memory(63), 63);
        CHECK.due("w with D as set in the cycle", x.memory(0), 1);
        CHECK.due("written", x.count(8), 3);
        CHECK.due("read", x.count(7), 0);
        MicroMachine y = Check.machine("A=P=H;f;r", "f;r", "g2");
        y.poke(0, 3);
        y.poke(63, 4);
        y.code(0, 5);
        y.code(63, 6);
        y.set(8, 63);
        y.run(2);
        CHECK.due("r with A as set in the cycle", y.register(1), 4);
        CHECK.due("f with P as set in the cycle", y.register(9), 6);
        y.run(1);
        CHECK.due("r with A as set before", y.register(1), 4);
        CHECK.due("f with P as set before", y.register(9), 6);
        MicroMachine z = Check.machine("f;w");
        z.run(1);
        CHECK.due("w lets nothing come", z.count(5), 0);
        CHECK.due("f beside w", z.count(6), 1);
        CHECK.due("f beside w counts", z.count(8) + 10 * z.count(9), 11);
    }

    /** "the int of MEMORY at A is taken, to come into D"; "the byte of CODE at P is taken, to come into M" */
    private static void takesWhenAsked() {
        MicroMachine x = Check.machine("A=P=H;f;r", "g2");
        x.set(8, 63);
        x.poke(63, -5);
        x.code(63, 250);
        x.run(1);
        CHECK.due("not yet in D", x.register(1), 0);
        CHECK.due("not yet in M", x.register(9), 0);
        CHECK.due("to come", x.count(5) + 10 * x.count(6), 11);
        x.poke(63, 1);
        x.code(63, 1);
        x.set(0, 1);
        x.set(2, 1);
        x.run(1);
        CHECK.due("D as it was taken", x.register(1), -5);
        CHECK.due("M as it was taken", x.register(9), 250);
        CHECK.due("nothing more to come", x.count(5) + x.count(6), 0);
        CHECK.due("memory stays", x.memory(63), 1);
    }

    /** "(4) What was taken in the CYCLE before (not in this one) comes: into D, into M." */
    private static void letsComeOneCycleLater() {
        MicroMachine x = Check.machine("A=P=0;f;r", "A=P=1;f;r", "D=H=D+1", "H=D");
        x.poke(0, 10);
        x.poke(1, 20);
        x.code(0, 30);
        x.code(1, 40);
        x.run(2);
        CHECK.due("the first word comes as the second is asked for", x.register(1), 10);
        CHECK.due("the first byte comes as the second is asked for", x.register(9), 30);
        CHECK.due("the second are to come", x.count(5) + 10 * x.count(6), 11);
        x.run(1);
        CHECK.due("what comes is laid over what was set", x.register(1), 20);
        CHECK.due("the second byte came", x.register(9), 40);
        CHECK.due("the VALUE was of D before", x.register(8), 11);
        x.set(1, 6);
        x.set(9, 7);
        x.run(1);
        CHECK.due("it comes once", x.register(1) + 10 * x.register(9), 76);
        MicroMachine y = Check.machine("r", "f", "g0");
        y.poke(0, 10);
        y.code(0, 30);
        y.run(2);
        CHECK.due("the word comes alone", y.register(1) + 100 * y.register(9), 10);
        y.run(1);
        CHECK.due("the byte comes alone", y.register(1) + 100 * y.register(9), 3010);
    }

    private static void writesBeforeWhatComes() {
        MicroMachine x = Check.machine("r", "A=1;w", "A=H;w");
        x.poke(0, 10);
        x.set(1, 5);
        x.set(8, 2);
        x.run(3);
        CHECK.due("D before what comes", x.memory(1), 5);
        CHECK.due("D behind it", x.memory(2), 10);
    }

    private static void readsWhatWasWritten() {
        MicroMachine x = Check.machine("A=1;w", "r", "w", "g3");
        x.poke(1, 4);
        x.set(1, 9);
        x.run(2);
        x.set(1, 8);
        x.run(1);
        CHECK.due("what was written is read", x.register(1), 9);
        CHECK.due("what is written later is not", x.memory(1), 8);
    }

    /** "none: word w + 1 modulo 64 follows" */
    private static void goesToTheNext() {
        for (int w = 0; w < 64; w++) {
            for (String text : "H=1 f r w f;w S=-1;r".split(" ")) {
                MicroMachine x = new MicroMachine();
                Check.word(x, w, text);
                x.begin(w);
                CHECK.due(text + " at " + w, x.run(1), w == 63 ? 0 : w + 1);
            }
        }
    }

    private static int wentTo(String text, int h, int byteM) {
        MicroMachine x = new MicroMachine();
        Check.word(x, 10, text);
        x.begin(10);
        x.set(8, h);
        x.set(4, h);
        x.set(9, byteM);
        return x.run(1);
    }

    /** "g: that; z: the first NUMBER, if the VALUE .. is 0, else the second; n: likewise, if it's below 0" */
    private static void goes() {
        CHECK.due("g", wentTo("g63", 0, 0), 63);
        CHECK.due("g to 0", wentTo("g0", 5, 5), 0);
        CHECK.due("g to itself", wentTo("g10", 0, 0), 10);
        int[][] values = {{0, 1, 2}, {1, 2, 2}, {-1, 2, 1}, {HIGHEST, 2, 2}, {LOWEST, 2, 1}, {256, 2, 2}, {1 << 16, 2, 2}};
        for (int[] value : values) {
            CHECK.due("z of " + value[0], wentTo("S=H;z1,2", value[0], 0), value[1]);
            CHECK.due("n of " + value[0], wentTo("S=H;n1,2", value[0], 0), value[2]);
        }
        CHECK.due("z without SETTING", wentTo("z1,2", 5, 5), 1);
        CHECK.due("n without SETTING", wentTo("n1,2", -5, 255), 2);
        CHECK.due("z to the ends", wentTo("z63,0", 0, 0), 63);
        CHECK.due("z to the ends", wentTo("S=1;z63,0", 0, 0), 0);
    }

    /** "if the VALUE before SHIFTING is 0" */
    private static void goesByValueBeforeShifting() {
        CHECK.due("z, 0 behind <", wentTo("S=H<;z1,2", 1 << 24, 0), 2);
        CHECK.due("z, 0 behind >", wentTo("S=H>;z1,2", 1, 0), 2);
        CHECK.due("z, 0 before", wentTo("S=H<;z1,2", 0, 0), 1);
        CHECK.due("n, below 0 behind <", wentTo("S=H<;n1,2", 0x00800000, 0), 2);
        CHECK.due("n, below 0 before <", wentTo("S=H<;n1,2", 0x80000000, 0), 1);
        CHECK.due("n, below 0 before >", wentTo("S=H>;n1,2", -1, 0), 1);
    }

    /** "m: (its NUMBER or 0, OR M ..) modulo 64" */
    private static void goesByByte() {
        for (int v = 0; v < 256; v++) {
            CHECK.due("m of " + v, wentTo("m", 0, v), v % 64);
            CHECK.due("m0 of " + v, wentTo("m0", 0, v), v % 64);
            CHECK.due("m63 of " + v, wentTo("m63", 0, v), 63);
            CHECK.due("m41 of " + v, wentTo("m41", 0, v), (v | 41) % 64);
        }
        CHECK.due("OR, not plus", wentTo("m41", 0, 3), 43);
    }

    /** "M as it is now": behind what came. */
    private static void goesByByteAsItIsNow() {
        MicroMachine x = Check.machine("P=1;f", "P=H=U;f;m", "H=U");
        x.code(0, 5);
        x.code(1, 2);
        CHECK.due("by the byte that just came", x.run(2), 2);
        CHECK.due("U was the byte before", x.register(8), 0);
        x.run(1);
        CHECK.due("U is the byte then", x.register(8), 2);
        CHECK.due("the next byte comes", x.register(9), 5);
        MicroMachine y = Check.machine("f;m");
        y.code(0, 9);
        y.set(9, 3);
        CHECK.due("not by the byte just taken", y.run(1), 3);
    }

    /** "A or P not 0 .. 63": the last right ones. */
    private static void asksWithinBounds() {
        for (int at = 0; at < 64; at++) {
            MicroMachine x = Check.machine("A=P=H;f;r", "D=-1;f;w", "g2");
            x.set(8, at);
            x.poke(at, 500 + at);
            x.code(at, 100 + at);
            CHECK.due("at " + at, x.run(2), 2);
            CHECK.due("r at " + at, x.register(1), 500 + at);
            CHECK.due("f at " + at, x.register(9), 100 + at);
            CHECK.due("w at " + at, x.memory(at), -1);
        }
    }

    private static MicroMachine asking(String text, int a, int p) {
        MicroMachine x = Busy.machineAt(text);
        x.set(0, a);
        x.set(2, p);
        return x;
    }

    /** "A or P not 0 .. 63 where r, w or f uses it in (3)": IndexOutOfBoundsException */
    private static void refusesOutsideBounds() {
        for (int at : Check.NOT_0_TO_63) {
            for (String text : "r w f;r f;w D=S=H+1;r C=L=T=O=1<;w H=-1;f;w;g9 f;r;m".split(" ")) {
                refusedAt(text + ", A " + at, () -> asking(text, at, 5));
            }
            for (String text : "f f;r f;w D=S=H+1;f C=L=T=O=1<;f;w H=-1;f;r;g9 f;r;m".split(" ")) {
                refusedAt(text + ", P " + at, () -> asking(text, 5, at));
            }
            refusedAt("both " + at, () -> asking("f;r", at, at));
        }
    }

    private static void refusedAt(String what, Supplier<MicroMachine> maker) {
        CHECK.refusedWithoutTrace(what, Check.OUTSIDE, maker, x -> x.run(1));
    }

    /** The places are those of step (2), not those before. */
    private static void looksAtPlacesBehindShifting() {
        for (int s : new int[] {1, -1}) {
            refusedAt("A=S< of " + s, () -> withS("A=S<;r", s));
            refusedAt("P=S< of " + s, () -> withS("P=S<;f", s));
        }
        for (int s : new int[] {-2, -1, 128, 129}) {
            refusedAt("A=S> of " + s, () -> withS("A=S>;w", s));
            refusedAt("P=S> of " + s, () -> withS("P=S>;f", s));
        }
        for (int s : new int[] {0, 1, 126, 127}) {
            MicroMachine x = withS("A=P=S>;f;w", s);
            x.run(1);
            CHECK.due("A=P=S> of " + s, x.register(0) + x.register(2), s / 2 * 2);
        }
        MicroMachine y = asking("A=P=1;f;r", -1, 64);
        CHECK.due("set right in the cycle", y.run(1), 2);
        refusedAt("set wrong in the cycle", () -> asking("A=S=-1;r", 5, 5));
        refusedAt("only P set wrong", () -> asking("P=-1;f;w", 5, 5));
    }

    private static MicroMachine withS(String text, int s) {
        MicroMachine x = asking(text, 5, 5);
        x.set(3, s);
        return x;
    }

    /** "where r, w or f uses it" */
    private static void looksOnlyAtWhatIsAsked() {
        for (int at : Check.NOT_0_TO_63) {
            CHECK.due("A with f, " + at, asking("f", at, 5).run(1), 2);
            CHECK.due("P with r, " + at, asking("r", 5, at).run(1), 2);
            CHECK.due("P with w, " + at, asking("w", 5, at).run(1), 2);
            CHECK.due("neither asked, " + at, asking("S=1", at, at).run(1), 2);
            CHECK.due("going alone, " + at, asking("g40", at, at).run(1), 40);
        }
        MicroMachine x = asking("A=P=-1", 5, 5);
        x.run(1);
        CHECK.due("set without asking", x.register(0) + x.register(2), -2);
    }

    /** "nothing of this CYCLE is done, and the machine stays at w" */
    private static void doesNothingOfARefusedCycle() {
        for (String asking : "r w f f;r f;w".split(" ")) {
            MicroMachine x = Check.machine("A=P=0;f;r", "A=D=P=H;" + asking + ";g0");
            x.set(8, 64);
            x.set(1, 3);
            x.poke(0, 50);
            x.code(0, 60);
            x.run(1);
            CHECK.refused(asking, Check.OUTSIDE, () -> x.run(2));
            CHECK.due(asking + ": at hand", x.count(3), 1);
            CHECK.due(asking + ": cycles", x.count(4), 1);
            CHECK.due(asking + ": A", x.register(0), 0);
            CHECK.due(asking + ": D", x.register(1), 3);
            CHECK.due(asking + ": P", x.register(2), 0);
            CHECK.due(asking + ": M", x.register(9), 0);
            CHECK.due(asking + ": still to come", x.count(5) + 10 * x.count(6), 11);
            CHECK.due(asking + ": asked for", x.count(7) + 10 * x.count(8) + 100 * x.count(9), 101);
            CHECK.due(asking + ": memory", x.memory(0), 50);
        }
    }

    /** "(what was taken in the CYCLE before is still to come)" */
    private static void goesOnBehindARefusedCycle() {
        MicroMachine x = asking("S=D;f;r", 64, 5);
        for (int i = 0; i < 3; i++) {
            CHECK.refused("again and again", Check.OUTSIDE, () -> x.run(1));
        }
        x.set(0, 63);
        CHECK.due("mended", x.run(1), 2);
        CHECK.due("the VALUE was of D before", x.register(3), 2048);
        CHECK.due("it comes into D", x.register(1), 22);
        CHECK.due("it comes into M", x.register(9), 207);
        CHECK.due("the next are to come", x.count(5) + 10 * x.count(6), 11);
        CHECK.due("cycles", x.count(4), 3);
    }
}
