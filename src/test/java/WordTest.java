/** Promise 3: what can be read, how many PARTS it has, and THE PLACE where it can't be read. */
public final class WordTest {
    private static final String SOURCES = "DPMUSLCTO";

    public static void main(String[] args) {
        Check check = new Check();
        countsParts(check);
        readsValues(check);
        readsTargets(check);
        readsNumbers(check);
        keepsAndDrops(check);
        findsPlaces(check);
        check.end();
    }

    private static void countsParts(Check check) {
        String[] settings = {"", "A=1", "D=H+M+1<"};
        String[] askings = {"", "f", "r", "w", "f;r", "f;w"};
        String[] goings = {"", "g0", "z1,2", "n63,00", "m", "m7"};
        for (String setting : settings) {
            for (String asking : askings) {
                for (String going : goings) {
                    String text = joined(setting, asking, going);
                    if (text.isEmpty()) {
                        check.unreadable(text, 0);
                    } else {
                        check.due(text, Check.word(new MicroMachine(), 5, text), text.split(";").length);
                    }
                }
            }
        }
    }

    private static String joined(String... parts) {
        StringBuilder text = new StringBuilder();
        for (String part : parts) {
            if (!part.isEmpty()) {
                text.append(text.length() > 0 ? ";" : "").append(part);
            }
        }
        return text.toString();
    }

    private static void readsValues(Check check) {
        for (String value : "H H+1 !H -H 0 1 -1".split(" ")) {
            check.due(value, Check.word(new MicroMachine(), 0, "D=" + value), 1);
        }
        for (String b : SOURCES.split("")) {
            for (String value : "b b+1 b-1 H+b H+b+1 b-H H&b H|b !b".split(" ")) {
                String text = "D=" + value.replace("b", b);
                check.due(text, Check.word(new MicroMachine(), 0, text), 1);
                check.due(text + ">", Check.word(new MicroMachine(), 0, text + ">"), 1);
            }
            check.unreadable("D=" + b + "+H", 4);
            check.unreadable("D=" + b + "&H", 3);
            check.unreadable("D=H-" + b, 3);
            check.unreadable("D=-" + b, 3);
            check.unreadable("D=" + b + "+", 4);
            check.unreadable("D=" + b + "-", 4);
            check.unreadable("D=H+" + b + "-1", 5);
            check.unreadable("D=H+" + b + "+", 6);
            check.unreadable("D=H&" + b + "+1", 5);
            check.unreadable("D=!" + b + "+1", 4);
            check.unreadable("D=" + b + b, 3);
        }
    }

    private static void readsTargets(Check check) {
        for (String r : "ADPSLCTOH".split("")) {
            check.due(r + "=0", Check.word(new MicroMachine(), 0, r + "=0"), 1);
            check.unreadable(r, 1);
            check.unreadable(r + "=", 2);
            check.unreadable(r + "1", 1);
            check.unreadable(r + "==", 2);
            check.unreadable(r + "=" + r + "=0", r.equals("A") ? 2 : 3);
        }
        for (String no : "M U Q a 1 = ; < ! ~".split(" ")) {
            check.unreadable(no + "=0", 0);
        }
        check.unreadable("D=M=0", 3);
        check.unreadable("D=U=0", 3);
        check.due("four", Check.word(new MicroMachine(), 0, "H=A=O=D=D"), 1);
        check.unreadable("A=D=P=S=L=0", 9);
        check.unreadable("D=P=S=L=A", 8);
        check.unreadable("D=A=P=A=0", 6);
        check.unreadable("D=P=D=0", 5);
        check.unreadable("D=A+1", 3);
        check.unreadable("D=A", 3);
        check.unreadable("D=H+A", 4);
        check.unreadable("D=H+H", 4);
    }

    private static void readsNumbers(Check check) {
        for (int number = 0; number < 100; number++) {
            String[] texts = {"g" + number, "m" + number, "z" + number + ",1", "n1," + number, "n" + number + ",63"};
            for (String text : texts) {
                if (number <= 63) {
                    check.due(text, Check.word(new MicroMachine(), 0, text), 1);
                } else {
                    check.unreadable(text, text.lastIndexOf(String.valueOf(number)) + 1);
                }
            }
        }
        check.due("g09", Check.word(new MicroMachine(), 0, "g09"), 1);
        check.unreadable("g000", 3);
        check.unreadable("g-1", 1);
        check.unreadable("g1,2", 2);
        check.unreadable("z,1", 1);
        check.unreadable("z1;2", 2);
        check.unreadable("n12,345", 6);
        check.unreadable("n12", 3);
        check.unreadable("m1,2", 2);
        check.unreadable("m;", 1);
        check.unreadable("mm", 1);
        check.unreadable("g:", 1);
        check.unreadable("g/", 1);
    }

    private static void keepsAndDrops(Check check) {
        MicroMachine x = new MicroMachine();
        Check.type(x, "A=1;r");
        check.refused("word -1", Check.BAD, () -> x.word(-1));
        check.refused("word 64", Check.BAD, () -> x.word(64));
        check.due("the text stays where i is bad", x.count(1), 5);
        check.due("no place where i is bad", x.count(0), -1);
        check.due("word 63", x.word(63), 2);
        check.due("the text is empty then", x.count(1), 0);
        check.due("a right text has no place", x.count(0), -1);
        check.refused("the empty text", Check.BAD, () -> x.word(63));
        check.due("its place", x.count(0), 0);
        Check.type(x, "A=1;x");
        check.refused("a bad text", Check.BAD, () -> x.word(63));
        check.due("the text is empty also then", x.count(1), 0);
        check.due("the old word stays", x.told(63, 1), 1);
        check.due("a new one takes its place", Check.word(x, 63, "D=P=0"), 1);
        check.due("its registers", x.told(63, 0), 6);
        check.due("nothing is left of the old one", x.told(63, 1), 0);
        check.due("words", x.count(2), 1);
        check.due("word 0", Check.word(x, 0, "m"), 1);
        check.due("words", x.count(2), 2);
    }

    private static void findsPlaces(Check check) {
        check.unreadable("", 0);
        check.unreadable(";", 0);
        check.unreadable("D=1;", 4);
        check.unreadable("D=1;;r", 4);
        check.unreadable("D=1,r", 3);
        check.unreadable("D=1;D=1", 4);
        check.unreadable("D=1r", 3);
        check.unreadable("D=1<>", 4);
        check.unreadable("D=<", 2);
        check.unreadable("<", 0);
        check.unreadable("f;", 2);
        check.unreadable("f;f", 2);
        check.unreadable("fr", 1);
        check.unreadable("r;", 2);
        check.unreadable("r;f", 2);
        check.unreadable("r;w", 2);
        check.unreadable("w;r", 2);
        check.unreadable("r;D=1", 2);
        check.unreadable("f;r;w", 4);
        check.unreadable("f;r;", 4);
        check.unreadable("g1;", 2);
        check.unreadable("g1;g1", 2);
        check.unreadable("m;r", 1);
        check.unreadable("z1,2;", 4);
        check.unreadable("z1,23;f", 5);
        check.unreadable("A=D=P=S=H+L+1<;f;r;z63,630", 25);
        check.due("the longest", Check.word(new MicroMachine(), 0, "A=D=P=S=H+L+1<;f;r;z63,63"), 4);
        check.unreadable("g".repeat(40), 1);
    }
}
