import java.util.ArrayList;
import java.util.HashMap;
import java.util.HashSet;
import java.util.List;
import java.util.Map;
import java.util.Random;
import java.util.Set;
import java.util.TreeSet;
import java.util.regex.Matcher;
import java.util.regex.Pattern;

/**
 * Random texts, whole and broken, against a second reader. It knows the LINES as rows of slots, and asks
 * of each TOKEN which of the FAULTS 1 to 7 its sentence finds there: the least of them is due.
 */
public final class TextOracleTest {
    private static final Check CHECK = new Check();
    private static final Set<String> RESERVED = Set.of("ring", "town", "copies", "guess", "seen", "by");
    private static final Map<String, String> ERRORS = new HashMap<>();
    private static final String[] SORTS =
        {"true", "blot", "fold", "shift", "turn", "swap", "stain", "erase", "stretch", "sneeze", "unknown"};
    private static final Map<String, Integer> FOUND = new HashMap<>();

    public static void main(String[] args) {
        String[] parts = {"", "MARK COLUMN ROW", "FOLD", "0:5 0:5", "", "MARK OTHER", "MARK", "MARK", "5:9", "MARK", ""};
        for (int i = 0; i < SORTS.length; i++) {
            ERRORS.put(SORTS[i], parts[i]);
        }
        Random random = new Random(12);
        for (int i = 0; i < 60_000; i++) {
            List<String> tokens = new Teller(random).tell();
            for (int k = i % 3 == 0 ? 0 : 1 + random.nextInt(2); k > 0; k--) {
                breakOne(tokens, random);
            }
            String text = join(tokens, random);
            if (i % 11 == 0) {
                text = text.substring(0, random.nextInt(text.length() + 1));
            }
            if (text.length() <= 900) {
                compare(text);
            }
        }
        CHECK.part("faults found " + FOUND);
        for (int number = 0; number <= 7; number++) {
            CHECK.due("texts of fault " + number + " enough", FOUND.getOrDefault("" + number, 0) > 200, true);
        }
        CHECK.end();
    }

    private static void compare(String text) {
        CHECK.part(text);
        Reading due = new Reading(text);
        FOUND.merge("" + due.fault, 1, Integer::sum);
        NineMaps x = new NineMaps();
        CHECK.due("ring", Check.ring(x, text), due.fault == 0 ? due.towns.size() : NineMaps.NONE);
        CHECK.due("trouble", x.trouble(), due.fault == 0 ? 0 : 4);
        CHECK.due("fault", x.fault(), due.fault);
        CHECK.due("where", x.where(), due.fault == 0 ? NineMaps.NONE : due.place);
        int[] sizes = {due.wide, due.high, due.marks, due.towns.size(), due.copies.size(), due.guesses, due.seen};
        for (int what = 0; what < sizes.length; what++) {
            CHECK.due("size " + what, x.size(what), due.fault == 0 ? sizes[what] : 0);
        }
        if (due.fault == 0) {
            compareTowns(x, due);
        }
    }

    private static void compareTowns(NineMaps x, Reading due) {
        for (int t = 0; t < due.towns.size(); t++) {
            String name = due.towns.get(t);
            CHECK.due("copies " + t, x.copies(t),
                due.copies.containsKey(name) ? due.towns.indexOf(due.copies.get(name)) : -2);
            int[] error = due.errors.getOrDefault(name, new int[] {0, -2, -2, -2});
            for (int what = 0; what < 4; what++) {
                CHECK.due("error " + t + " " + what, x.error(t, what), error[what]);
            }
            CHECK.dueText("map " + t, Check.map(x, t, 0), String.join(",", due.rows.get(name)));
        }
    }

    // ---- texts

    private static String join(List<String> tokens, Random random) {
        StringBuilder text = new StringBuilder();
        boolean spare = random.nextInt(3) == 0;
        String before = ";";
        for (String token : tokens) {
            boolean parted = Character.isLetterOrDigit(before.charAt(0)) && Character.isLetterOrDigit(token.charAt(0));
            text.append(parted || spare && random.nextInt(4) == 0 ? " " : "").append(token);
            before = token;
        }
        return text + (spare ? "  " : "");
    }

    private static void breakOne(List<String> tokens, Random random) {
        String[] any = {"ring", "wide", "high", "marks", "town", "copies", "guess", "seen", "by", "true", "blot", "fold",
            "shift", "turn", "swap", "stain", "erase", "stretch", "sneeze", "unknown", "a", "b", "c", "f", "ab", "ba",
            "abc", "p", "q", "r", "z", "0", "1", "2", "4", "5", "6", "7", "9", "10", "20", "21", "00", "99", "123",
            "abcdefghi", ";", ",", ";", ",", "!", "A", "{", "/", ":"};
        int at = random.nextInt(tokens.size());
        String token = any[random.nextInt(any.length)];
        switch (random.nextInt(7)) {
            case 0: if (tokens.size() > 1) { tokens.remove(at); } break;
            case 1: tokens.add(at, token); break;
            case 2: tokens.add(at, tokens.get(random.nextInt(tokens.size()))); break;
            case 3: tokens.add(token); break;
            case 4: tokens.set(at, tokens.get(random.nextInt(tokens.size()))); break;
            case 5: breakLine(tokens, at, random); break;
            default: tokens.set(at, token); break;
        }
    }

    /** A whole line once more at the end: so too many are met. */
    private static void breakLine(List<String> tokens, int at, Random random) {
        List<String> line = new ArrayList<>();
        int begin = at;
        while (begin > 0 && !tokens.get(begin - 1).equals(";")) {
            begin--;
        }
        for (int i = begin; i < tokens.size() && !tokens.get(i).equals(";"); i++) {
            line.add(tokens.get(i));
        }
        for (int times = 1 + random.nextInt(4); times > 0 && tokens.size() < 200; times--) {
            tokens.add(";");
            tokens.addAll(line);
        }
    }

    /** Tells a text without a FAULT. */
    private static final class Teller {
        private static final String[] NAMES = {"p", "q", "r", "wide", "true", "abcdefgh", "a", "aa"};

        private final Random random;
        private final List<String> tokens = new ArrayList<>();
        private int wide;
        private int high;
        private int marks;
        private int unknown = 0;

        Teller(Random random) {
            this.random = random;
        }

        List<String> tell() {
            wide = 2 + random.nextInt(3);
            high = 2 + random.nextInt(3);
            marks = 2 + random.nextInt(5);
            add("ring wide " + wide + " high " + high + " marks " + marks);
            int towns = 1 + random.nextInt(6);
            int copied = 0;
            int guesses = random.nextInt(6);
            int seen = random.nextInt(9);
            for (int t = 0; t < towns; t++) {
                town(t);
                if (random.nextInt(3) > 0) {
                    add("; copies " + NAMES[copied] + " " + NAMES[random.nextInt(t + 1)] + " by");
                    error(true);
                    copied++;
                }
                for (; guesses > 0 && random.nextInt(3) == 0; guesses--) {
                    add("; guess");
                    error(false);
                }
                for (; seen > 0 && random.nextInt(2) == 0; seen--) {
                    add("; seen " + NAMES[random.nextInt(t + 1)] + " " + (1 + random.nextInt(20)) + " "
                        + random.nextInt(wide) + " " + random.nextInt(high) + " " + mark());
                }
            }
            return tokens;
        }

        private void add(String text) {
            tokens.addAll(List.of(text.split(" ")));
        }

        private char mark() {
            return (char) ('a' + random.nextInt(marks));
        }

        private void town(int t) {
            add("; town " + NAMES[t]);
            for (int row = 0; row < high; row++) {
                StringBuilder letters = new StringBuilder();
                for (int column = 0; column < wide; column++) {
                    letters.append(mark());
                }
                add(row > 0 ? ", " + letters : letters.toString());
            }
        }

        private void error(boolean any) {
            String sort = SORTS[random.nextInt(any ? 11 : 9)];
            if (sort.equals("unknown") && unknown == 4) {
                sort = "turn";
            }
            unknown += sort.equals("unknown") ? 1 : 0;
            add(sort);
            char first = mark();
            for (String slot : ERRORS.get(sort).split(" ")) {
                switch (slot) {
                    case "": break;
                    case "MARK": add("" + first); break;
                    case "OTHER": add("" + (char) ('a' + (first - 'a' + 1) % marks)); break;
                    case "COLUMN": add("" + random.nextInt(wide)); break;
                    case "ROW": add("" + random.nextInt(high)); break;
                    case "FOLD": add("" + (1 + random.nextInt(wide - 1))); break;
                    default:
                        int low = slot.charAt(0) - '0';
                        add("" + (low + random.nextInt(slot.charAt(2) - '0' - low + 1)));
                        break;
                }
            }
        }
    }

    // ---- the second reader

    private static final class Reading {
        int fault = 0;
        int place = -1;
        int wide = 0;
        int high = 0;
        int marks = 0;
        int guesses = 0;
        int seen = 0;
        int unknown = 0;
        final List<String> towns = new ArrayList<>();
        final Map<String, List<String>> rows = new HashMap<>();
        final Map<String, String> copies = new HashMap<>();
        final Map<String, int[]> errors = new HashMap<>();
        /** What is due from here on; what comes behind it is written ahead of it. */
        private final List<String> due = new ArrayList<>(List.of("LINE"));
        private final List<String> rowsNow = new ArrayList<>();
        private String townNow = "";
        private String firstMark = "";
        private int[] errorNow = new int[4];
        private int errorPart = 0;

        Reading(String text) {
            Matcher m = Pattern.compile("[a-z]+|[0-9]+|[^ ]").matcher(text);
            while (fault == 0 && m.find()) {
                next(m.group(), m.start());
            }
            if (fault == 0) {
                next("", text.length());
            }
        }

        private void next(String token, int at) {
            String slot = due.isEmpty() ? "BEHIND" : due.remove(0);
            TreeSet<Integer> faults = faultsOf(slot, token);
            if (!faults.isEmpty()) {
                fault = faults.first();
                place = at;
                return;
            }
            take(slot, token);
        }

        private static boolean word(String token) {
            return token.matches("[a-z]{1,8}");
        }

        private static boolean whole(String token) {
            return token.matches("[0-9]{1,2}");
        }

        private static boolean name(String token) {
            return word(token) && !RESERVED.contains(token);
        }

        private TreeSet<Integer> faultsOf(String slot, String token) {
            TreeSet<Integer> faults = new TreeSet<>();
            switch (slot) {
                case "LINE": lineFaults(token, faults); break;
                case "BEHIND":
                    add(faults, 1, !token.equals(";") && !token.isEmpty());
                    add(faults, 6, token.isEmpty() && towns.isEmpty());
                    break;
                case "MOREROWS":
                    add(faults, 1, !token.equals(",") && !token.equals(";") && !token.isEmpty());
                    add(faults, 6, token.equals(";") || token.isEmpty());
                    break;
                case "NEW":
                    add(faults, 1, !name(token));
                    add(faults, 3, towns.contains(token));
                    break;
                case "OLD":
                case "FREE":
                    add(faults, 1, !name(token));
                    add(faults, 2, name(token) && !towns.contains(token));
                    add(faults, 3, slot.equals("FREE") && copies.containsKey(token));
                    break;
                case "MARKS":
                    add(faults, 1, !word(token));
                    add(faults, 7, word(token) && !token.matches("[a-" + lastMark() + "]{" + wide + "}"));
                    break;
                case "MARK":
                case "OTHER":
                    add(faults, 1, !word(token));
                    add(faults, 7, word(token) && !token.matches("[a-" + lastMark() + "]"));
                    add(faults, 3, slot.equals("OTHER") && token.equals(firstMark));
                    break;
                case "ERROR":
                case "GUESSED":
                    add(faults, 1, !ERRORS.containsKey(token));
                    add(faults, 1, slot.equals("GUESSED") && (token.equals("sneeze") || token.equals("unknown")));
                    add(faults, 5, slot.equals("ERROR") && token.equals("unknown") && unknown == 4);
                    break;
                default: plainFaults(slot, token, faults); break;
            }
            return faults;
        }

        private char lastMark() {
            return (char) ('a' + marks - 1);
        }

        private static void add(Set<Integer> faults, int number, boolean so) {
            if (so) {
                faults.add(number);
            }
        }

        private void lineFaults(String token, Set<Integer> faults) {
            boolean line = RESERVED.contains(token) && !token.equals("by");
            add(faults, 1, !line);
            add(faults, 3, token.equals("ring") && marks > 0);
            add(faults, 5, token.equals("town") && towns.size() == 6);
            add(faults, 5, token.equals("guess") && guesses == 5);
            add(faults, 5, token.equals("seen") && seen == 8);
            add(faults, 6, line && !token.equals("ring") && marks == 0);
            add(faults, 6, token.isEmpty() && towns.isEmpty());
        }

        /** A word that stands there as it is, or a whole between two bounds. */
        private void plainFaults(String slot, String token, Set<Integer> faults) {
            String bounds = slot.equals("COLUMN") ? "0:" + (wide - 1) : slot.equals("ROW") ? "0:" + (high - 1)
                : slot.equals("FOLD") ? "1:" + (wide - 1) : slot;
            int colon = bounds.indexOf(':');
            if (colon < 0) {
                add(faults, 1, !token.equals(slot));
                return;
            }
            add(faults, 1, !whole(token));
            if (whole(token)) {
                int value = Integer.parseInt(token);
                int low = Integer.parseInt(bounds.substring(0, colon));
                int high = Integer.parseInt(bounds.substring(colon + 1));
                add(faults, 4, value < low || value > high);
            }
        }

        private void take(String slot, String token) {
            switch (slot) {
                case "LINE": takeLine(token); break;
                case "BEHIND":
                    if (token.equals(";")) {
                        due.add("LINE");
                    }
                    break;
                case "NEW":
                    townNow = token;
                    rowsNow.clear();
                    break;
                case "MARKS":
                    rowsNow.add(token);
                    if (rowsNow.size() == high) {
                        towns.add(townNow);
                        rows.put(townNow, new ArrayList<>(rowsNow));
                    } else {
                        due.addAll(List.of("MOREROWS", "MARKS"));
                    }
                    break;
                case "FREE": townNow = token; break;
                case "OLD":
                    if (due.contains("by")) {
                        copies.put(townNow, token);
                    }
                    break;
                case "ERROR":
                case "GUESSED": takeError(token, slot.equals("ERROR")); break;
                default: takePart(slot, token); break;
            }
        }

        private void takeLine(String token) {
            errorNow = new int[4];
            errorPart = 1;
            switch (token) {
                case "ring": due.addAll(List.of("wide", "2:6", "high", "2:6", "marks", "2:6")); break;
                case "town": due.addAll(List.of("NEW", "MARKS")); break;
                case "copies": due.addAll(List.of("FREE", "OLD", "by", "ERROR")); break;
                case "guess":
                    guesses++;
                    due.add("GUESSED");
                    break;
                default:
                    seen++;
                    due.addAll(List.of("OLD", "1:20", "COLUMN", "ROW", "MARK"));
                    break;
            }
        }

        private void takeError(String token, boolean ofTown) {
            errorNow = new int[] {List.of(SORTS).indexOf(token), -2, -2, -2};
            errorPart = 1;
            if (ofTown) {
                unknown += token.equals("unknown") ? 1 : 0;
                errors.put(townNow, errorNow);
            }
            for (String part : ERRORS.get(token).split(" ")) {
                if (!part.isEmpty()) {
                    due.add(part);
                }
            }
        }

        private void takePart(String slot, String token) {
            if (slot.equals("2:6")) {
                int value = Integer.parseInt(token);
                if (due.contains("high")) {
                    wide = value;
                } else if (due.contains("marks")) {
                    high = value;
                } else {
                    marks = value;
                }
                return;
            }
            if (slot.equals("MARK")) {
                firstMark = token;
            }
            boolean told = whole(token) || slot.equals("MARK") || slot.equals("OTHER");
            if (told && errorPart < 4) {
                errorNow[errorPart] = whole(token) ? Integer.parseInt(token) : token.charAt(0) - 'a';
                errorPart++;
            }
        }
    }
}
