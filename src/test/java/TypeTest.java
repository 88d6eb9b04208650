/** Promise 2. */
public final class TypeTest {
    public static void main(String[] args) {
        Check check = new Check();
        adds(check);
        refusesWrongBytes(check);
        refusesTooMany(check);
        check.end();
    }

    private static void adds(Check check) {
        MicroMachine x = new MicroMachine();
        check.due("nothing", x.type(0), 0);
        check.due("one", x.type('D'), 1);
        check.due("one at the top", x.type((long) '=' << 56), 2);
        check.due("zeros between", x.type((long) 'H' << 48 | (long) '+' << 24 | '1'), 5);
        check.due("length", x.count(1), 5);
        check.due("highest first", x.word(0), 1);
        x.set(8, 41);
        x.run(1);
        check.due("D=H+1 was typed", x.register(1), 42);
        check.due("eight", x.type(Check.packed("A=D=P=S=")), 8);
        check.due("eight and one", x.type('0'), 9);
        check.due("nothing added", x.type(0), 9);
        check.due("one word of two typings", x.word(1), 1);
        check.due("its registers", x.told(1, 0), 15);
    }

    private static void refusesWrongBytes(Check check) {
        for (int c = 1; c < 256; c++) {
            for (int shift = 0; shift < 64; shift += 8) {
                MicroMachine x = new MicroMachine();
                x.type('g');
                long eight = (long) c << shift;
                long beside = shift == 0 ? (long) 'A' << 8 : 'A';
                if (c >= 33 && c <= 126) {
                    check.due("type " + c, x.type(eight | beside), 3);
                } else {
                    check.refused("type " + c, Check.BAD, () -> x.type(eight | beside));
                    check.due("length behind " + c, x.count(1), 1);
                }
            }
        }
        MicroMachine x = new MicroMachine();
        x.type('g');
        check.refused("all bits", Check.BAD, () -> x.type(-1L));
        check.refused("a right byte before a wrong one", Check.BAD, () -> x.type(Check.packed("1 ")));
        x.type('7');
        check.due("only what was right is there", x.word(0), 1);
        check.due("g7", x.told(0, 4), 7);
        check.due("a text that can't be typed has no place", x.count(0), -1);
    }

    private static void refusesTooMany(Check check) {
        MicroMachine x = new MicroMachine();
        Check.type(x, "z1,2" + "!".repeat(34));
        check.due("length", x.count(1), 38);
        check.refused("three more", Check.FULL, () -> x.type(Check.packed("abc")));
        check.due("none added", x.count(1), 38);
        check.refused("three more, one of them wrong", Check.BAD, () -> x.type(Check.packed("a c")));
        check.due("two more", x.type(Check.packed("~!")), 40);
        check.refused("one more", Check.FULL, () -> x.type('a'));
        check.refused("one more that is wrong", Check.BAD, () -> x.type(' '));
        check.due("none more", x.type(0), 40);
        check.refused("word", Check.BAD, () -> x.word(0));
        check.due("place", x.count(0), 4);
        check.due("room again", x.type(Check.packed("g1")), 2);
    }
}
