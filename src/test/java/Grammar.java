import java.util.ArrayList;
import java.util.HashSet;
import java.util.List;
import java.util.Random;
import java.util.Set;

/**
 * The language of WORDS once more, written down as lists of what may stand in it and not as a
 * reader of one character after the other, so that a slip in one is not a slip in both.
 */
final class Grammar {
    static final String TARGETS = "ADPSLCTOH";

    private static final int SETTING = 0;
    private static final int ASKING_BYTE = 1;
    private static final int ASKING_WORD = 2;
    private static final int GOING = 3;

    final List<String> values = new ArrayList<>();
    final List<String> goings = new ArrayList<>();
    private final Set<String> shiftedValues = new HashSet<>();
    private final Set<String> valueBeginnings = new HashSet<>();
    private final Set<String> goingSet = new HashSet<>();
    private final Set<String> goingBeginnings = new HashSet<>();

    Grammar() {
        values.addAll(List.of("H", "H+1", "!H", "-H", "0", "1", "-1"));
        for (String b : "DPMUSLCTO".split("")) {
            for (String value : "b b+1 b-1 H+b H+b+1 b-H H&b H|b !b".split(" ")) {
                values.add(value.replace("b", b));
            }
        }
        for (String value : values) {
            shiftedValues.addAll(List.of(value, value + "<", value + ">"));
        }
        shiftedValues.forEach(value -> addBeginnings(value, valueBeginnings));
        listGoings();
        goingSet.addAll(goings);
        goings.forEach(going -> addBeginnings(going, goingBeginnings));
    }

    private void listGoings() {
        List<String> numbers = new ArrayList<>();
        for (int number = 0; number < 64; number++) {
            numbers.add(String.valueOf(number));
            if (number < 10) {
                numbers.add("0" + number);
            }
        }
        goings.add("m");
        for (String number : numbers) {
            goings.add("g" + number);
            goings.add("m" + number);
            for (String other : numbers) {
                goings.add("z" + number + "," + other);
                goings.add("n" + number + "," + other);
            }
        }
    }

    private static void addBeginnings(String text, Set<String> beginnings) {
        for (int end = 0; end <= text.length(); end++) {
            beginnings.add(text.substring(0, end));
        }
    }

    /** The parts of a right text, or -1. */
    int partsOf(String text) {
        String[] parts = text.split(";", -1);
        int before = -1;
        for (String part : parts) {
            int kind = kindOf(part);
            if (kind <= before || !isRight(part, kind)) {
                return -1;
            }
            before = kind;
        }
        return parts.length;
    }

    /** THE PLACE, or -1 of a right text. */
    int placeOf(String text) {
        for (int at = 0; at < text.length(); at++) {
            if (!couldBegin(text.substring(0, at + 1))) {
                return at;
            }
        }
        return partsOf(text) < 0 ? text.length() : -1;
    }

    boolean couldBegin(String text) {
        int cut = text.lastIndexOf(';');
        String last = text.substring(cut + 1);
        int before = -1;
        if (cut >= 0) {
            String whole = text.substring(0, cut);
            before = kindOf(whole.substring(whole.lastIndexOf(';') + 1));
            if (partsOf(whole) < 0 || before == GOING) {
                return false;
            }
        }
        return last.isEmpty() || (kindOf(last) > before && couldBeginPart(last));
    }

    private static int kindOf(String part) {
        if (part.isEmpty()) {
            return -1;
        }
        char c = part.charAt(0);
        return TARGETS.indexOf(c) >= 0 ? SETTING : c == 'f' ? ASKING_BYTE : "rw".indexOf(c) >= 0 ? ASKING_WORD : GOING;
    }

    private boolean isRight(String part, int kind) {
        if (kind == GOING) {
            return goingSet.contains(part);
        }
        if (kind != SETTING) {
            return part.length() == 1;
        }
        int cut = part.lastIndexOf('=');
        return cut > 0 && areTargets(part.substring(0, cut + 1)) && shiftedValues.contains(part.substring(cut + 1));
    }

    private boolean couldBeginPart(String part) {
        int kind = kindOf(part);
        if (kind == GOING) {
            return goingBeginnings.contains(part);
        }
        if (kind != SETTING) {
            return part.length() == 1;
        }
        int cut = part.lastIndexOf('=');
        String targets = part.substring(0, cut + 1);
        String tail = part.substring(cut + 1);
        boolean hasTargets = areTargets(targets);
        boolean couldBeTarget = tail.length() == 1 && (cut < 0 || hasTargets) && areTargets(targets + tail + "=");
        return couldBeTarget || (hasTargets && valueBeginnings.contains(tail));
    }

    /** One to four registers, none twice, each with = behind. */
    private static boolean areTargets(String text) {
        Set<Character> seen = new HashSet<>();
        for (int i = 0; i + 1 < text.length(); i += 2) {
            boolean isTarget = TARGETS.indexOf(text.charAt(i)) >= 0 && text.charAt(i + 1) == '=';
            if (!isTarget || !seen.add(text.charAt(i))) {
                return false;
            }
        }
        return text.length() % 2 == 0 && text.length() >= 2 && text.length() <= 8;
    }

    /** A right text; its GOING, if any, goes to words below the bound. */
    String anyText(Random random, int bound) {
        StringBuilder text = new StringBuilder();
        if (random.nextInt(4) > 0) {
            add(text, anySetting(random));
        }
        if (random.nextInt(3) == 0) {
            add(text, "f");
        }
        if (random.nextInt(2) == 0) {
            add(text, random.nextBoolean() ? "r" : "w");
        }
        if (text.length() == 0 || random.nextInt(3) == 0) {
            add(text, anyGoing(random, bound));
        }
        return text.toString();
    }

    /** The text with a slip or two in it, or none. */
    static String spoiled(String text, Random random) {
        StringBuilder spoiled = new StringBuilder(text);
        for (int slips = random.nextInt(3); slips > 0; slips--) {
            spoil(spoiled, random);
        }
        return spoiled.toString();
    }

    private static void spoil(StringBuilder text, Random random) {
        String likely = "ADPSLCTOHMU=+-!&|01<>;frwgznm,69";
        char c = likely.charAt(random.nextInt(likely.length()));
        int at = random.nextInt(text.length() + 1);
        if (at == text.length() || random.nextInt(3) == 0) {
            text.insert(at, c);
        } else if (random.nextBoolean()) {
            text.setCharAt(at, c);
        } else if (random.nextBoolean()) {
            text.deleteCharAt(at);
        } else {
            text.setLength(at);
        }
    }

    private static void add(StringBuilder text, String part) {
        text.append(text.length() > 0 ? ";" : "").append(part);
    }

    private String anySetting(Random random) {
        StringBuilder setting = new StringBuilder();
        int wanted = 1 + random.nextInt(4);
        for (int i = 0; i < wanted; i++) {
            char target = TARGETS.charAt(random.nextInt(TARGETS.length()));
            if (setting.indexOf(String.valueOf(target)) < 0) {
                setting.append(target).append('=');
            }
        }
        setting.append(values.get(random.nextInt(values.size())));
        return setting.append(new String[] {"", "", "<", ">"}[random.nextInt(4)]).toString();
    }

    private static String anyGoing(Random random, int bound) {
        int first = random.nextInt(bound);
        int second = random.nextInt(bound);
        switch (random.nextInt(5)) {
            case 0:
                return "g" + first;
            case 1:
                return "z" + first + "," + second;
            case 2:
                return "n" + first + "," + second;
            case 3:
                return "m" + first;
            default:
                return "m";
        }
    }
}
