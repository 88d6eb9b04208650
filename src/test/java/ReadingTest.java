import java.util.List;

/** What Terms say of WORDS: what can be read, and THE PLACE where it can't be read. */
public final class ReadingTest {
    private static final Check CHECK = new Check();
    private static final String TARGETS = "ADPSLCTOH";
    private static final String SOURCES = "DPMUSLCTO";
    private static final String LONGEST = "A=D=P=S=H+L+1<;f;r;z63,63";

    public static void main(String[] args) {
        ordersParts("", 0, 0);
        needsAPart();
        partsThemWithSemicolons();
        takesOneToFourTargets();
        takesNoTargetTwice("", 0);
        needsEqualsBehindTargets();
        setsNothingElse();
        readsValues();
        refusesOtherValues();
        shiftsOnce();
        asks();
        goes();
        takesNumbersUpTo63();
        findsThePlaceInALongText();
        takesEveryCharacter();
        readsNothingBehindTheEnd();
        CHECK.end();
    }

    /** "each kind at most once, in this order: SETTING, ASKING (one or two), GOING": every row of parts. */
    private static void ordersParts(String before, int parts, int lastKind) {
        String[] all = {"A=1", "f", "r", "w", "m7"};
        int[] kinds = {1, 2, 3, 3, 4};
        for (int i = 0; i < all.length && parts < 5; i++) {
            String text = before + all[i];
            boolean isBehindGoing = lastKind == 4;
            if (kinds[i] > lastKind) {
                CHECK.readable(text, parts + 1);
                ordersParts(text + ";", parts + 1, kinds[i]);
            } else {
                CHECK.unreadable(text, before.length() - (isBehindGoing ? 1 : 0));
                CHECK.unreadable(text + ";g1", before.length() - (isBehindGoing ? 1 : 0));
            }
        }
    }

    /** "at least one PART" */
    private static void needsAPart() {
        CHECK.unreadable("", 0);
        CHECK.unreadable(";", 0);
        CHECK.unreadable(";;", 0);
        CHECK.unreadable(";r", 0);
    }

    /** "PARTS with ; between" */
    private static void partsThemWithSemicolons() {
        String[] rows = {"D=1;", "D=1<;", "f;", "r;", "w;", "D=H+S;f;", "f;w;", "D=M;f;r;"};
        for (String row : rows) {
            CHECK.unreadable(row, row.length());
            CHECK.unreadable(row + ";", row.length());
            CHECK.unreadable(row + ";g1", row.length());
            CHECK.unreadable(row.substring(0, row.length() - 1) + ",g1", row.length() - 1);
            CHECK.unreadable(row.substring(0, row.length() - 1) + "g1", row.length() - 1);
        }
        for (String going : new String[] {"g1", "g12", "z1,2", "n11,22", "m", "m1", "m11"}) {
            CHECK.unreadable(going + ";", going.length());
            CHECK.unreadable("r;" + going + ";f", 2 + going.length());
        }
    }

    /** "SETTING: one to four of A D P S L C T O H" */
    private static void takesOneToFourTargets() {
        for (int from = 0; from < TARGETS.length(); from++) {
            StringBuilder setting = new StringBuilder();
            for (int many = 1; many <= 5; many++) {
                char name = TARGETS.charAt((from + many) % TARGETS.length());
                setting.append(name).append('=');
                if (many <= 4) {
                    CHECK.readable(setting + "0", 1);
                } else {
                    // A fifth name could be the VALUE's, but for A.
                    CHECK.unreadable(setting + "0", name == 'A' ? 8 : 9);
                }
            }
        }
        CHECK.unreadable("0", 0);
        CHECK.unreadable("=0", 0);
        CHECK.unreadable("-1", 0);
        CHECK.unreadable("!D", 0);
    }

    /** "No register stands twice in a SETTING before =.": every row of up to four names and one more. */
    private static void takesNoTargetTwice(String before, int many) {
        if (many == 4) {
            return;
        }
        for (int i = 0; i < TARGETS.length(); i++) {
            char name = TARGETS.charAt(i);
            String text = before + name + "=";
            if (before.indexOf(name) < 0) {
                CHECK.readable(text + "1", 1);
                takesNoTargetTwice(text, many + 1);
            } else {
                CHECK.unreadable(text + "1", name == 'A' ? before.length() : before.length() + 1);
            }
        }
    }

    /** "each with = behind" */
    private static void needsEqualsBehindTargets() {
        for (String r : TARGETS.split("")) {
            CHECK.unreadable(r, 1);
            CHECK.unreadable(r + "=", 2);
            CHECK.unreadable(r + "==0", 2);
            for (String wrong : "0 + - ; < A D H g ~".split(" ")) {
                CHECK.unreadable(r + wrong + "=0", 1);
            }
        }
        CHECK.unreadable("D=A", 3);
        CHECK.unreadable("D=A0", 3);
        CHECK.unreadable("D=A+1", 3);
        CHECK.unreadable("D=P=S=A", 7);
        CHECK.unreadable("D=PS=0", 3);
    }

    private static void setsNothingElse() {
        for (char c = 33; c <= 126; c++) {
            if (TARGETS.indexOf(c) < 0) {
                CHECK.unreadable(c + "=0", "fgnmrwz".indexOf(c) < 0 ? 0 : 1);
            }
        }
        CHECK.unreadable("D=M=0", 3);
        CHECK.unreadable("D=U=0", 3);
        CHECK.unreadable("D=1=0", 3);
    }

    /** "VALUE (b being one of D P M U S L C T O ..)", and "then perhaps SHIFT" */
    private static void readsValues() {
        for (String value : "H H+1 !H -H 0 1 -1".split(" ")) {
            readShifted(value);
        }
        for (String b : SOURCES.split("")) {
            for (String value : "b b+1 b-1 H+b H+b+1 b-H H&b H|b !b".split(" ")) {
                readShifted(value.replace("b", b));
            }
        }
    }

    private static void readShifted(String value) {
        for (String shift : new String[] {"", "<", ">"}) {
            CHECK.readable("D=" + value + shift, 1);
            CHECK.readable("H=A=" + value + shift + ";g1", 2);
        }
    }

    private static void refusesOtherValues() {
        for (String b : SOURCES.split("")) {
            CHECK.unreadable("D=" + b + "+H", 4);
            CHECK.unreadable("D=" + b + "+2", 4);
            CHECK.unreadable("D=" + b + "-2", 4);
            CHECK.unreadable("D=" + b + "&H", 3);
            CHECK.unreadable("D=" + b + "|H", 3);
            CHECK.unreadable("D=" + b + "+1+1", 5);
            CHECK.unreadable("D=" + b + "-H+1", 5);
            CHECK.unreadable("D=" + b + "-" + b, 4);
            CHECK.unreadable("D=H-" + b, 3);
            CHECK.unreadable("D=-" + b, 3);
            CHECK.unreadable("D=" + b + "+", 4);
            CHECK.unreadable("D=" + b + "-", 4);
            CHECK.unreadable("D=H+" + b + "-1", 5);
            CHECK.unreadable("D=H+" + b + "+", 6);
            CHECK.unreadable("D=H+" + b + "+0", 6);
            CHECK.unreadable("D=H+" + b + "+2", 6);
            CHECK.unreadable("D=H&" + b + "+1", 5);
            CHECK.unreadable("D=!" + b + "+1", 4);
            CHECK.unreadable("D=" + b + b, 3);
        }
        for (String value : "A +1 +H =0 2 9 <".split(" ")) {
            CHECK.unreadable("H=" + value + ";g1", value.equals("A") ? 3 : 2);
        }
        for (String behindH : "-1 -D H A !D 1 &1 |1 &H |H &A +0 +2 +H +A +-1".split(" ")) {
            boolean isBegun = "&|+".indexOf(behindH.charAt(0)) >= 0;
            CHECK.unreadable("S=H" + behindH, isBegun ? 4 : 3);
        }
        for (String value : "!0 !1 !! !A !- -0 -2 -- -A -D".split(" ")) {
            CHECK.unreadable("S=" + value, 3);
        }
        for (String value : "00 01 0+1 0-1 10 11 1+1 -1+1 -11 -H+1 !H+1 -1-1".split(" ")) {
            CHECK.unreadable("S=" + value, "-!".indexOf(value.charAt(0)) < 0 ? 3 : 4);
        }
        for (String begun : "H+ H& H| ! - D+ D- H+D+".split(" ")) {
            CHECK.unreadable("S=" + begun, 2 + begun.length());
            CHECK.unreadable("S=" + begun + ";r", 2 + begun.length());
            CHECK.unreadable("S=" + begun + "<", 2 + begun.length());
        }
    }

    /** "SHIFT: < .. or >": once at most, and behind a VALUE alone. */
    private static void shiftsOnce() {
        for (String value : "0 1 -1 H D M+1 D-H H+L+1 !U".split(" ")) {
            int behind = 2 + value.length();
            for (String twice : "<< <> >< >>".split(" ")) {
                CHECK.unreadable("S=" + value + twice, behind + 1);
            }
            CHECK.unreadable("S=" + value + "<+1", behind + 1);
            CHECK.unreadable("S=" + value + ">1", behind + 1);
        }
        for (String text : new String[] {"<", ">", "<D=1"}) {
            CHECK.unreadable(text, 0);
        }
        CHECK.unreadable("D=<", 2);
        CHECK.unreadable("D<=1", 1);
        CHECK.unreadable("r<", 1);
        CHECK.unreadable("D=1;<", 4);
        CHECK.unreadable("D=1;r;>", 6);
    }

    /** "ASKING: f, and one of r and w; both with ; between: f first." */
    private static void asks() {
        CHECK.readable("f", 1);
        CHECK.readable("r", 1);
        CHECK.readable("w", 1);
        CHECK.readable("f;r", 2);
        CHECK.readable("f;w", 2);
        for (String text : "r;f w;f r;w w;r f;f r;r w;w".split(" ")) {
            CHECK.unreadable(text, 2);
        }
        for (String text : "fr fw rf wf rw wr ff rr ww f,r f1 r1 w0".split(" ")) {
            CHECK.unreadable(text, 1);
        }
        for (String text : "f;r;w f;w;r f;r;f f;w;f f;r;r".split(" ")) {
            CHECK.unreadable(text, 4);
        }
        for (String text : "F R W q".split(" ")) {
            CHECK.unreadable(text, 0);
        }
    }

    /** "GOING: g and a NUMBER; z or n, a NUMBER, a comma and a NUMBER; m, or m and a NUMBER." */
    private static void goes() {
        for (String text : "g z n g; g, z, n, g-1 m, m; mm m-1 g+1 z-1,2 g: g/ m: m/ z/ n: gg".split(" ")) {
            CHECK.unreadable(text, 1);
        }
        for (String text : "g1,2 m1,2 z1 n1 z1;2 n1:2 z1-2 g1. g1g".split(" ")) {
            CHECK.unreadable(text, 2);
        }
        for (String text : "z1, n1, z1,, n1,;1 z1,-1 z1,: n1,/".split(" ")) {
            CHECK.unreadable(text, 3);
        }
        for (String text : "z1,2, n1,2,3 z1,2;r n1,2;".split(" ")) {
            CHECK.unreadable(text, 4);
        }
        for (String text : "G1 Z1,2 N1,2 1 x1 ,1".split(" ")) {
            CHECK.unreadable(text, 0);
        }
        CHECK.unreadable("M", 0);
    }

    /** "NUMBER: one or two digits, at most 63." */
    private static void takesNumbersUpTo63() {
        for (int number = 0; number < 100; number++) {
            takesNumber(String.valueOf(number), number);
            if (number < 10) {
                takesNumber("0" + number, number);
            }
        }
        for (String three : "000 001 010 063 100 630 639".split(" ")) {
            CHECK.unreadable("g" + three, 3);
            CHECK.unreadable("m" + three, 3);
            CHECK.unreadable("z" + three + ",1", 3);
            CHECK.unreadable("n1," + three, 5);
        }
    }

    private static void takesNumber(String digits, int number) {
        String[] texts = {"g#", "m#", "z#,1", "n1,#", "n#,63", "z63,#"};
        for (String text : texts) {
            String whole = text.replace("#", digits);
            if (number <= 63) {
                CHECK.readable(whole, 1);
                MicroMachine x = Check.machine(whole);
                CHECK.due(whole + " told", x.told(0, text.endsWith("#") && text.length() > 2 ? 5 : 4), number);
            } else {
                CHECK.unreadable(whole, text.indexOf('#') + 1);
            }
        }
    }

    /** "THE PLACE ..: its first character with which .. nothing right could begin, or its length, if just the end is wrong" */
    private static void findsThePlaceInALongText() {
        CHECK.readable(LONGEST, 4);
        List<Integer> wholeAt = List.of(3, 5, 7, 9, 11, 13, 14, 16, 18, 24);
        for (int cut = 0; cut < LONGEST.length(); cut++) {
            String begun = LONGEST.substring(0, cut);
            if (wholeAt.contains(cut)) {
                CHECK.readable(begun, begun.split(";").length);
            } else {
                CHECK.unreadable(begun, cut);
            }
        }
        for (int cut = 0; cut <= LONGEST.length(); cut++) {
            String begun = LONGEST.substring(0, cut);
            CHECK.unreadable(begun + "~", cut);
            CHECK.unreadable(begun + "~" + LONGEST.substring(cut, Math.min(cut + 14, LONGEST.length())), cut);
            CHECK.unreadable(begun + "~".repeat(40 - cut), cut);
        }
        CHECK.unreadable("g".repeat(40), 1);
        CHECK.unreadable(";".repeat(40), 0);
        CHECK.unreadable(LONGEST + ";" + LONGEST.substring(0, 14), 25);
    }

    /** Every character that can be typed, where a PART, a VALUE or a GOING begins. */
    private static void takesEveryCharacter() {
        for (char c = 33; c <= 126; c++) {
            first(c);
            value(c);
        }
    }

    private static void first(char c) {
        String text = String.valueOf(c);
        if ("frwm".indexOf(c) >= 0) {
            CHECK.readable(text, 1);
        } else {
            CHECK.unreadable(text, (TARGETS + "gzn").indexOf(c) >= 0 ? 1 : 0);
        }
    }

    private static void value(char c) {
        String text = "D=" + c;
        if ((SOURCES + "H01").indexOf(c) >= 0) {
            CHECK.readable(text, 1);
        } else {
            CHECK.unreadable(text, "A!-".indexOf(c) >= 0 ? 3 : 2);
        }
    }

    /** "or its length, if just the end is wrong": what an older, longer text left is no part of it. */
    private static void readsNothingBehindTheEnd() {
        String texts = LONGEST + " D=!S D=-1 D=H&S D=H|U D=S+1 D=S-H D=H+1 m12 n12,34 g5 f;w A=D=0";
        for (String older : texts.split(" ")) {
            for (int cut = 0; cut < older.length(); cut++) {
                MicroMachine x = Check.machine(older);
                String text = older.substring(0, cut);
                CHECK.due(text + " behind " + older, readBy(x, text), readBy(new MicroMachine(), text));
            }
        }
    }

    /** The parts, or, below 0, the place. */
    private static int readBy(MicroMachine x, String text) {
        Check.type(x, text);
        try {
            return x.word(1);
        } catch (IllegalArgumentException e) {
            return -1 - x.count(0);
        }
    }
}
