/** Promise 6, and the CYCLE that Terms tell. */
public final class RunTest {
    private static final int LOWEST = Integer.MIN_VALUE;
    private static final int HIGHEST = Integer.MAX_VALUE;

    public static void main(String[] args) {
        Check check = new Check();
        worksOutValues(check);
        usesEverySource(check);
        shifts(check);
        setsRegisters(check);
        asks(check);
        letsComeOneCycleLater(check);
        goes(check);
        staysWhereAskedOutside(check);
        endsAndAnswers(check);
        check.end();
    }

    private static int valueOf(String value, int h, int s) {
        MicroMachine x = Check.machine("T=" + value);
        x.set(8, h);
        x.set(3, s);
        x.run(1);
        return x.register(6);
    }

    private static void worksOutValues(Check check) {
        int[] some = {0, 1, -1, 12, -7, 0x5555, LOWEST, HIGHEST};
        for (int h : some) {
            for (int s : some) {
                String with = " with " + h + ", " + s;
                check.due("S" + with, valueOf("S", h, s), s);
                check.due("H" + with, valueOf("H", h, s), h);
                check.due("S+1" + with, valueOf("S+1", h, s), s + 1);
                check.due("S-1" + with, valueOf("S-1", h, s), s - 1);
                check.due("H+1" + with, valueOf("H+1", h, s), h + 1);
                check.due("H+S" + with, valueOf("H+S", h, s), h + s);
                check.due("H+S+1" + with, valueOf("H+S+1", h, s), h + s + 1);
                check.due("S-H" + with, valueOf("S-H", h, s), s - h);
                check.due("H&S" + with, valueOf("H&S", h, s), h & s);
                check.due("H|S" + with, valueOf("H|S", h, s), h | s);
                check.due("!S" + with, valueOf("!S", h, s), -s - 1);
                check.due("!H" + with, valueOf("!H", h, s), -h - 1);
                check.due("-H" + with, valueOf("-H", h, s), 0 - h);
                check.due("0" + with, valueOf("0", h, s), 0);
                check.due("1" + with, valueOf("1", h, s), 1);
                check.due("-1" + with, valueOf("-1", h, s), -1);
            }
        }
    }

    private static void usesEverySource(Check check) {
        String names = "ADPSLCTOHMU";
        for (String b : "DPMUSLCTO".split("")) {
            MicroMachine x = Check.machine("H=" + b, "H=!" + b);
            for (int r = 0; r < 9; r++) {
                x.set(r, 1000 + r);
            }
            x.set(9, 200);
            int want = b.equals("M") ? -56 : b.equals("U") ? 200 : 1000 + names.indexOf(b);
            x.run(1);
            check.due("H=" + b, x.register(8), want);
            x.run(1);
            check.due("H=!" + b, x.register(8), ~want);
        }
        int[][] bytes = {{0, 0}, {127, 127}, {128, -128}, {255, -1}};
        for (int[] pair : bytes) {
            MicroMachine x = Check.machine("H=M", "S=U");
            x.set(9, pair[0]);
            x.run(2);
            check.due("M of " + pair[0], x.register(8), pair[1]);
            check.due("U of " + pair[0], x.register(3), pair[0]);
            check.due("the byte stays", x.register(9), pair[0]);
        }
    }

    private static void shifts(Check check) {
        check.due("left", valueOf("H<", 0x01020304, 0), 0x02030400);
        check.due("left into the sign", valueOf("H<", 0x00800000, 0), LOWEST);
        check.due("right", valueOf("S>", 0, 7), 3);
        check.due("right with the sign", valueOf("S>", 0, -7), -4);
        check.due("right of the lowest", valueOf("S>", 0, LOWEST), LOWEST / 2);
        check.due("the whole value is shifted", valueOf("H+S+1<", 1, 2), 1024);
    }

    private static void setsRegisters(Check check) {
        String names = "ADPSLCTOH";
        for (int r = 0; r < 9; r++) {
            MicroMachine x = Check.machine(names.charAt(r) + "=-1");
            x.run(1);
            for (int other = 0; other < 10; other++) {
                check.due(names.charAt(r) + "=-1 and register " + other, x.register(other), other == r ? -1 : 0);
            }
        }
        MicroMachine x = Check.machine("H=S=D=A=H+S+1");
        x.set(8, 20);
        x.set(3, 21);
        x.run(1);
        check.due("value of the registers as they were", x.register(8), 42);
        check.due("S", x.register(3), 42);
        check.due("D", x.register(1), 42);
        check.due("A", x.register(0), 42);
        check.due("P", x.register(2), 0);
    }

    private static void asks(Check check) {
        MicroMachine x = Check.machine("A=D=H;w", "A=S;w", "w");
        x.set(8, 63);
        x.set(3, 0);
        x.run(3);
        check.due("w with A and D as set in the cycle", x.memory(63), 63);
        check.due("w with A set", x.memory(0), 63);
        check.due("written", x.count(8), 3);
        check.due("read", x.count(7), 0);
        MicroMachine y = Check.machine("A=P=H;f;r", "g2");
        y.set(8, 63);
        y.poke(63, -5);
        y.code(63, 250);
        y.run(1);
        check.due("not yet in D", y.register(1), 0);
        check.due("not yet in M", y.register(9), 0);
        check.due("a word is to come", y.count(5), 1);
        check.due("a byte is to come", y.count(6), 1);
        y.poke(63, 1);
        y.code(63, 1);
        y.set(0, 1);
        y.set(2, 1);
        y.run(1);
        check.due("D as it was taken", y.register(1), -5);
        check.due("M as it was taken", y.register(9), 250);
        check.due("no word is to come", y.count(5), 0);
        check.due("no byte is to come", y.count(6), 0);
        check.due("read", y.count(7), 1);
        check.due("bytes read", y.count(9), 1);
        MicroMachine z = Check.machine("f;w");
        z.run(1);
        check.due("w lets nothing come", z.count(5), 0);
        check.due("f beside w", z.count(6), 1);
        check.due("f beside w counts", z.count(8) + 10 * z.count(9), 11);
    }

    private static void letsComeOneCycleLater(Check check) {
        MicroMachine x = Check.machine("A=0;r", "A=1;r", "D=H=D+1;w", "H=D");
        x.poke(0, 10);
        x.poke(1, 20);
        x.run(2);
        check.due("the first comes as the second is asked for", x.register(1), 10);
        check.due("the second is to come", x.count(5), 1);
        x.run(1);
        check.due("what comes is laid over what was set", x.register(1), 20);
        check.due("the value was of D before", x.register(8), 11);
        check.due("w writes D before what comes", x.memory(1), 11);
        x.run(1);
        check.due("D is used a cycle later", x.register(8), 20);
        MicroMachine y = Check.machine("P=1;f", "P=H=U;f;m", "H=U");
        y.code(0, 5);
        y.code(1, 2);
        y.set(9, 0);
        check.due("m goes by the byte that just came", y.run(2), 2);
        check.due("U was the byte before", y.register(8), 0);
        y.run(1);
        check.due("U is the byte then", y.register(8), 2);
        check.due("the next byte comes", y.register(9), 5);
        MicroMachine z = Check.machine("A=1;w", "r", "g3", "g3");
        z.set(1, 9);
        z.run(1);
        z.set(1, 0);
        z.run(2);
        check.due("what was written is read", z.register(1), 9);
    }

    private static int wentTo(String text, int h, int byteM) {
        MicroMachine x = new MicroMachine();
        Check.word(x, 10, text);
        x.begin(10);
        x.set(8, h);
        x.set(9, byteM);
        return x.run(1);
    }

    private static void goes(Check check) {
        check.due("none", wentTo("H=1", 0, 0), 11);
        check.due("g", wentTo("g63", 0, 0), 63);
        check.due("g to itself", wentTo("g10", 0, 0), 10);
        check.due("z of 0", wentTo("S=H;z1,2", 0, 0), 1);
        check.due("z of 1", wentTo("S=H;z1,2", 1, 0), 2);
        check.due("z of -1", wentTo("S=H;z1,2", -1, 0), 2);
        check.due("z without setting", wentTo("z1,2", 5, 5), 1);
        check.due("z before shifting left", wentTo("S=H<;z1,2", 1 << 24, 0), 2);
        check.due("z before shifting right", wentTo("S=H>;z1,2", 1, 0), 2);
        check.due("n of 0", wentTo("S=H;n1,2", 0, 0), 2);
        check.due("n of -1", wentTo("S=H;n1,2", -1, 0), 1);
        check.due("n of 1", wentTo("S=H;n1,2", 1, 0), 2);
        check.due("n without setting", wentTo("n1,2", -5, 255), 2);
        check.due("n before shifting left", wentTo("S=H<;n1,2", 0x00800000, 0), 2);
        check.due("n before shifting left, below 0", wentTo("S=H<;n1,2", 0x80000000, 0), 1);
        check.due("m of 0", wentTo("m", 0, 0), 0);
        check.due("m of 63", wentTo("m", 0, 63), 63);
        check.due("m of 64", wentTo("m", 0, 64), 0);
        check.due("m of 255", wentTo("m", 0, 255), 63);
        check.due("m with a number", wentTo("m40", 0, 3), 43);
        check.due("m is OR, not plus", wentTo("m41", 0, 3), 43);
        check.due("m with a number, modulo", wentTo("m32", 0, 200), 40);
        MicroMachine x = new MicroMachine();
        Check.word(x, 63, "H=H+1");
        x.begin(63);
        check.due("0 follows 63", x.run(1), 0);
    }

    private static void staysWhereAskedOutside(Check check) {
        int[] outside = {-1, 64, LOWEST, HIGHEST};
        for (int a : outside) {
            for (String asking : "r w f f;r f;w".split(" ")) {
                MicroMachine x = Check.machine("A=P=0;f;r", "A=D=P=H;" + asking + ";g0");
                x.set(8, a);
                x.set(1, 3);
                x.poke(0, 50);
                x.code(0, 60);
                String told = asking + " with " + a;
                x.run(1);
                check.refused(told, Check.OUTSIDE, () -> x.run(2));
                check.due(told + ": at hand", x.count(3), 1);
                check.due(told + ": cycles", x.count(4), 1);
                check.due(told + ": A", x.register(0), 0);
                check.due(told + ": D", x.register(1), 3);
                check.due(told + ": P", x.register(2), 0);
                check.due(told + ": M", x.register(9), 0);
                check.due(told + ": still to come", x.count(5) + 10 * x.count(6), 11);
                check.due(told + ": asked for", x.count(7) + 10 * x.count(8) + 100 * x.count(9), 101);
                check.due(told + ": memory", x.memory(0), 50);
                Check.word(x, 1, "g5");
                x.run(1);
                check.due(told + ": comes later into D", x.register(1), 50);
                check.due(told + ": comes later into M", x.register(9), 60);
            }
        }
        oneOfTwoOutside(check);
        onlyWhatIsAskedCounts(check);
    }

    private static void oneOfTwoOutside(Check check) {
        MicroMachine x = Check.machine("P=-1;f;w");
        x.set(1, 7);
        check.refused("only P outside", Check.OUTSIDE, () -> x.run(1));
        check.due("nothing written", x.memory(0) + x.count(8), 0);
        MicroMachine y = Check.machine("A=-1;f;r");
        check.refused("only A outside", Check.OUTSIDE, () -> y.run(1));
        check.due("nothing fetched", y.count(6) + y.count(9), 0);
    }

    private static void onlyWhatIsAskedCounts(Check check) {
        MicroMachine x = Check.machine("A=-1;f", "A=0;r", "P=-1;w", "A=P=S=-1", "A=P=1;f;r");
        check.due("A outside without r or w, P without f", x.run(5), 5);
        check.due("A set in the cycle counts, not A before", x.register(0), 1);
    }

    private static void endsAndAnswers(Check check) {
        MicroMachine x = Check.machine("H=H+1;g0");
        for (int n : new int[] {0, -1, 501, LOWEST, HIGHEST}) {
            check.refused("run " + n, Check.BAD, () -> x.run(n));
        }
        check.due("nothing done", x.count(4), 0);
        check.due("run 500", x.run(500), 0);
        check.due("500 cycles", x.register(8), 500);
        check.due("run 1", x.run(1), 0);
        check.due("cycles", x.count(4), 501);
        MicroMachine y = Check.machine("S=1", "r");
        check.refused("to a word that isn't there", Check.MISSING, () -> y.run(9));
        check.due("what was done stays", y.register(3), 1);
        check.due("cycles", y.count(4), 2);
        check.due("at hand", y.count(3), 2);
        check.due("the word is still to come", y.count(5), 1);
        y.poke(0, 4);
        Check.word(y, 2, "g2");
        y.run(1);
        check.due("it comes as it was taken", y.register(1), 0);
        MicroMachine z = Check.machine("A=-1;r");
        z.begin(9);
        check.refused("bad before missing", Check.BAD, () -> z.run(0));
        z.begin(0);
        check.refused("bad before outside", Check.BAD, () -> z.run(501));
    }
}
