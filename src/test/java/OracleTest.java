import java.util.ArrayDeque;
import java.util.ArrayList;
import java.util.HashMap;
import java.util.List;
import java.util.Map;
import java.util.Random;

/**
 * Random rings and calls, each answer against a second program that does what the document says in
 * the slowest and plainest way: all towns in each round, all sets of strokes, all rows of guesses.
 */
public final class OracleTest {
    static final Check CHECK = new Check();

    public static void main(String[] args) {
        for (int run = 0; run < 700; run++) {
            new Run(run).go();
        }
        for (int run = 0; run < 40; run++) {
            new Run(run).longRounds();
        }
        CHECK.end();
    }

    /** A map, with where each mark came from: 100 times the town and the place, -2 none. */
    static final class Sheet {
        final char[][] mark;
        final int[][] from;

        Sheet(int high, int wide) {
            mark = new char[high][wide];
            from = new int[high][wide];
        }

        String text() {
            StringBuilder all = new StringBuilder();
            for (char[] row : mark) {
                all.append(all.length() > 0 ? "," : "").append(row);
            }
            return all.toString();
        }

        char at(int place) {
            return mark[place % 10][place / 10];
        }
    }

    static final class Model {
        int wide;
        int high;
        int marks;
        int towns;
        List<Sheet> maps = new ArrayList<>();
        int[] copies;
        String[] errors;
        int seed;
        int gone;

        Model same() {
            Model m = new Model();
            m.wide = wide;
            m.high = high;
            m.marks = marks;
            m.towns = towns;
            m.copies = copies.clone();
            m.errors = errors.clone();
            m.seed = seed;
            m.gone = gone;
            for (int t = 0; t < towns; t++) {
                Sheet s = new Sheet(high, wide);
                for (int y = 0; y < high; y++) {
                    for (int x = 0; x < wide; x++) {
                        s.mark[y][x] = maps.get(t).mark[y][x];
                        s.from[y][x] = 100 * t + 10 * x + y;
                    }
                }
                m.maps.add(s);
            }
            return m;
        }

        Model behind(int n) {
            Model m = same();
            for (int i = 0; i < n; i++) {
                m.round();
            }
            return m;
        }

        void round() {
            List<Sheet> next = new ArrayList<>();
            for (int t = 0; t < towns; t++) {
                next.add(copies[t] < 0 ? maps.get(t) : by(errors[t].split(" "), maps.get(copies[t])));
            }
            maps = next;
        }

        static void put(Sheet s, int x, int y, char mark, int from) {
            s.mark[y][x] = mark;
            s.from[y][x] = from;
        }

        Sheet by(String[] error, Sheet m) {
            Sheet s = new Sheet(high, wide);
            int drawn = -1;
            if (error[0].equals("sneeze")) {
                seed = (int) ((75L * seed + 74) % 65537);
                drawn = seed % (wide * high);
            }
            for (int y = 0; y < high; y++) {
                for (int x = 0; x < wide; x++) {
                    one(error, m, s, x, y, drawn);
                }
            }
            return s;
        }

        private void one(String[] error, Sheet m, Sheet s, int x, int y, int drawn) {
            char mark = m.mark[y][x];
            int from = m.from[y][x];
            int sx = x;
            int sy = y;
            switch (error[0]) {
                case "blot":
                    if (x == whole(error[2]) && y == whole(error[3])) {
                        put(s, x, y, error[1].charAt(0), -2);
                        return;
                    }
                    break;
                case "fold":
                    if (x >= whole(error[1])) {
                        sx = 2 * whole(error[1]) - 1 - x;
                        sx = sx < 0 ? 0 : sx;
                    }
                    break;
                case "shift":
                    // found from the other side: where each place of m goes to
                    for (int my = 0; my < high; my++) {
                        for (int mx = 0; mx < wide; mx++) {
                            if ((mx + whole(error[1])) % wide == x && (my + whole(error[2])) % high == y) {
                                sx = mx;
                                sy = my;
                            }
                        }
                    }
                    break;
                case "turn":
                    sx = wide - 1 - x;
                    sy = high - 1 - y;
                    break;
                case "swap":
                    char a = error[1].charAt(0);
                    char b = error[2].charAt(0);
                    put(s, x, y, mark == a ? b : mark == b ? a : mark, from);
                    return;
                case "stain":
                    stain(error[1].charAt(0), m, s, x, y);
                    return;
                case "erase":
                    boolean gone = mark == error[1].charAt(0);
                    put(s, x, y, gone ? 'a' : mark, gone ? -2 : from);
                    return;
                case "stretch":
                    sx = (int) Math.floor(x * whole(error[1]) / 10.0);
                    sy = (int) Math.floor(y * whole(error[1]) / 10.0);
                    break;
                case "sneeze":
                    if (y * wide + x == drawn) {
                        put(s, x, y, error[1].charAt(0), -2);
                        return;
                    }
                    break;
                default:
                    break;
            }
            put(s, x, y, m.mark[sy][sx], m.from[sy][sx]);
        }

        private void stain(char c, Sheet m, Sheet s, int x, int y) {
            int[][] looked = {{x, y}, {x - 1, y}, {x + 1, y}, {x, y - 1}, {x, y + 1}};
            for (int[] p : looked) {
                if (p[0] >= 0 && p[1] >= 0 && p[0] < wide && p[1] < high && m.mark[p[1]][p[0]] == c) {
                    put(s, x, y, c, m.from[p[1]][p[0]]);
                    return;
                }
            }
            put(s, x, y, m.mark[y][x], m.from[y][x]);
        }

        static int whole(String s) {
            return Integer.parseInt(s);
        }

        boolean town(int t) {
            return t >= 0 && t < towns;
        }

        boolean place(int p) {
            return p >= 0 && p / 10 < wide && p % 10 < high;
        }

        boolean mark(int m) {
            return m >= 0 && m < marks;
        }

        List<Integer> places() {
            List<Integer> all = new ArrayList<>();
            for (int x = 0; x < wide; x++) {
                for (int y = 0; y < high; y++) {
                    all.add(10 * x + y);
                }
            }
            return all;
        }

        String allMaps() {
            StringBuilder all = new StringBuilder();
            for (Sheet s : maps) {
                all.append(s.text()).append(';');
            }
            return all.toString();
        }

        /** The sizes of the areas of a mark. */
        List<Integer> areas(int t, char mark) {
            List<Integer> sizes = new ArrayList<>();
            boolean[][] met = new boolean[high][wide];
            for (int p : places()) {
                if (maps.get(t).at(p) == mark && !met[p % 10][p / 10]) {
                    sizes.add(flood(t, mark, p, met));
                }
            }
            return sizes;
        }

        private int flood(int t, char mark, int p, boolean[][] met) {
            if (!place(p) || met[p % 10][p / 10] || maps.get(t).at(p) != mark) {
                return 0;
            }
            met[p % 10][p / 10] = true;
            return 1 + (p >= 10 ? flood(t, mark, p - 10, met) : 0) + flood(t, mark, p + 10, met)
                + (p % 10 > 0 ? flood(t, mark, p - 1, met) : 0) + flood(t, mark, p + 1, met);
        }

        /** The least ink by going out along the cheapest ways first. */
        int ink(int t, int place, char mark) {
            Map<Integer, Integer> best = new HashMap<>();
            ArrayDeque<Integer> open = new ArrayDeque<>();
            best.put(place, maps.get(t).at(place) == mark ? 0 : 1);
            open.add(place);
            while (!open.isEmpty()) {
                int p = open.poll();
                int[] beside = {p - 10, p + 10, p % 10 == 0 ? -1 : p - 1, p + 1};
                for (int q : beside) {
                    if (place(q)) {
                        int cost = best.get(p) + (maps.get(t).at(q) == mark ? 0 : 1);
                        if (cost < best.getOrDefault(q, 1000)) {
                            best.put(q, cost);
                            open.add(q);
                        }
                    }
                }
            }
            int least = 1000;
            for (int p : places()) {
                int x = p / 10;
                int y = p % 10;
                if (x == 0 || y == 0 || x == wide - 1 || y == high - 1) {
                    least = Math.min(least, best.get(p));
                }
            }
            return least;
        }
    }

    static final class Run {
        /** Each is faulty at its end, behind much that is good. */
        private static final String[] RUBBISH = {
            "ring wide 6 high 2 marks 6;town z aaaaaa,ffffff;copies z z by unknown;guess stain f;seen z 1 0 0 b;",
            "ring wide 2 high 6 marks 2;town y ab,ba,ab,ba,ab,ba;town p bb,bb,bb,bb,bb,bb;copies p y by sneeze b;guess turn;"
                + "guess true;seen y 1 1 1 b;copies y p by fold 2",
            "ring wide 3 high 3 marks 3", "ring", ""};

        final Random random;
        final int run;
        NineMaps x = new NineMaps();
        Model now;
        Model first;
        List<String> guesses = new ArrayList<>();
        List<int[]> seen = new ArrayList<>();
        List<Model> olds = new ArrayList<>();
        List<Model> keeps = new ArrayList<>();
        List<int[]> rows;

        Run(int run) {
            this.run = run;
            this.random = new Random(run);
        }

        int up(int below) {
            return random.nextInt(below);
        }

        /** Two rings on one object, with a faulty text between them, by which the first one stays. */
        void go() {
            goOnByANewRing(50);
            if (run % 2 == 0) {
                String text = RUBBISH[up(RUBBISH.length)];
                CHECK.due("faulty ring", Check.ring(x, text), -1);
                CHECK.due("faulty ring, trouble()", x.trouble(), 4);
                for (int i = 0; i < 20; i++) {
                    call();
                }
            }
            goOnByANewRing(25);
        }

        private void goOnByANewRing(int calls) {
            guesses = new ArrayList<>();
            seen = new ArrayList<>();
            olds = new ArrayList<>();
            keeps = new ArrayList<>();
            rows = null;
            String text = tell();
            CHECK.part("run " + run + ", " + text);
            CHECK.due("ring", Check.ring(x, text), now.towns);
            for (int i = 0; i < calls; i++) {
                call();
            }
        }

        /** Rings of copying in which it takes long until all comes again, up to 400 and beyond. */
        void longRounds() {
            now = new Model();
            now.wide = 5;
            now.high = 6;
            now.marks = 3 + up(4);
            now.towns = 6;
            now.copies = new int[] {1, 2, 3, 4, 5, 0};
            now.errors = new String[] {"stain a", "swap a b", "swap b c", error(3), run % 2 == 0 ? "true" : error(3),
                run % 3 == 0 ? "true" : error(1)};
            List<String> lines = new ArrayList<>();
            lines.add("ring wide 5 high 6 marks " + now.marks);
            for (int t = 0; t < 6; t++) {
                now.maps.add(tellTown(t, lines));
            }
            for (int t = 0; t < 6; t++) {
                lines.add("copies " + (char) ('p' + t) + " " + (char) ('p' + now.copies[t]) + " by " + now.errors[t]);
            }
            String text = String.join(";", lines);
            CHECK.part("run " + run + ", " + text);
            CHECK.due("ring", Check.ring(x, text), 6);
            callRound();
            int[] found = comesAgain(5000);
            int over = found[0] + found[1] - 401;
            if (found[1] <= 400 && over >= 0) {
                // go on until it comes again behind 401 rounds from NOW on, and once more
                for (int i = 0; i <= over; i++) {
                    now = now.behind(1);
                    CHECK.due("rounds", x.rounds(1), i + 1);
                    if (i >= over - 2) {
                        callRound();
                    }
                }
                CHECK.due("round false, behind 400", x.round(false), found[1]);
                CHECK.due("round true, behind 400", x.round(true), 400 - found[1]);
            }
        }

        char mark() {
            return (char) ('a' + up(now.marks));
        }

        String tell() {
            now = new Model();
            int most = run % 4 == 0 ? 5 : run % 4 == 1 ? 3 : 2;
            now.wide = 2 + up(most);
            now.high = 2 + up(most);
            now.marks = 2 + up(run % 3 == 0 ? 5 : 2);
            now.towns = 1 + up(6);
            now.copies = new int[now.towns];
            now.errors = new String[now.towns];
            List<String> lines = new ArrayList<>();
            lines.add("ring wide " + now.wide + " high " + now.high + " marks " + now.marks);
            for (int t = 0; t < now.towns; t++) {
                now.maps.add(tellTown(t, lines));
                now.copies[t] = -2;
                now.errors[t] = "true";
            }
            tellCopies(lines);
            first = now.same();
            tellGuesses(lines);
            return String.join(";", lines);
        }

        private Sheet tellTown(int t, List<String> lines) {
            Sheet s = new Sheet(now.high, now.wide);
            for (int p : now.places()) {
                s.mark[p % 10][p / 10] = mark();
            }
            lines.add("town " + (char) ('p' + t) + " " + s.text());
            return s;
        }

        private void tellCopies(List<String> lines) {
            int unknown = 0;
            boolean stains = run % 5 == 0;
            for (int i = 0; i < now.towns; i++) {
                int t = (i + run) % now.towns;
                if (up(6) > 0) {
                    now.copies[t] = up(now.towns);
                    boolean more = unknown < 4 && up(3) == 0;
                    now.errors[t] = more ? "unknown" : stains && up(2) == 0 ? "stain " + mark() : error(up(10));
                    unknown += more ? 1 : 0;
                    lines.add("copies " + (char) ('p' + t) + " " + (char) ('p' + now.copies[t])
                        + " by " + now.errors[t]);
                }
            }
        }

        String error(int sort) {
            switch (sort) {
                case 1: return "blot " + mark() + " " + up(now.wide) + " " + up(now.high);
                case 2: return "fold " + (1 + up(now.wide - 1));
                case 3: return "shift " + up(6) + " " + up(6);
                case 4: return "turn";
                case 5:
                    char a = mark();
                    char b = mark();
                    return a == b ? "true" : "swap " + a + " " + b;
                case 6: return "stain " + mark();
                case 7: return "erase " + mark();
                case 8: return "stretch " + (5 + up(5));
                case 9: return "sneeze " + mark();
                default: return "true";
            }
        }

        private void tellGuesses(List<String> lines) {
            for (int i = up(6); i > 0; i--) {
                guesses.add(error(up(9)));
                lines.add("guess " + guesses.get(guesses.size() - 1));
            }
            for (int i = up(5); i > 0; i--) {
                int t = up(now.towns);
                int n = 1 + up(up(3) == 0 ? 20 : 6);
                int p = now.places().get(up(now.wide * now.high));
                char mark = up(3) == 0 ? mark() : first.behind(n).maps.get(t).at(p);
                seen.add(new int[] {t, n, p, mark});
                lines.add("seen " + (char) ('p' + t) + " " + n + " " + p / 10 + " " + p % 10 + " " + mark);
            }
        }

        // -- numbers for calls, now and then none such

        int t() {
            return up(25) == 0 ? up(3) == 0 ? -1 : now.towns : up(now.towns);
        }

        int p() {
            int[] none = {-1, 10 * now.wide, now.high, 9, 99, -10, Integer.MIN_VALUE};
            return up(25) == 0 ? none[up(none.length)] : now.places().get(up(now.wide * now.high));
        }

        int m() {
            return up(25) == 0 ? up(2) == 0 ? -1 : now.marks : up(now.marks);
        }

        int n(int most) {
            return up(25) == 0 ? up(2) == 0 ? -1 : most + 1 : up(4) == 0 ? most - up(3) : up(7);
        }

        void due(String call, long got, long want, int trouble) {
            CHECK.due(call, got, want);
            CHECK.due(call + ", trouble()", x.trouble(), trouble);
        }

        void call() {
            switch (up(8)) {
                case 0: callNow(); break;
                case 1: callBehind(); break;
                case 2: callSource(); break;
                case 3: callRing(); break;
                case 4: callStrokes(); break;
                case 5: callSeen(); break;
                case 6: callAct(); break;
                default: callPast(); break;
            }
        }

        void callNow() {
            int t = t();
            int p = p();
            int what = up(6) - 1;
            boolean town = now.town(t);
            boolean place = town && now.place(p);
            due("copies " + t, x.copies(t), town ? now.copies[t] : -1, town ? 0 : 1);
            due("cell " + t + " " + p, x.cell(t, p), place ? now.maps.get(t).at(p) - 'a' : -1, place ? 0 : 1);
            due("first " + t + " " + p, x.first(t, p), place ? first.maps.get(t).at(p) - 'a' : -1, place ? 0 : 1);
            boolean part = town && what >= 0 && what < 4;
            due("error " + t + " " + what, x.error(t, what), part ? errorPart(now.errors[t], what) : -1, part ? 0 : 1);
            int count = 0;
            for (int u = 0; u < now.towns; u++) {
                if (!now.maps.get(u).text().equals(first.maps.get(u).text())) {
                    CHECK.due("led " + count, x.led(count), u);
                    count++;
                }
            }
            boolean thrown = false;
            try {
                x.led(count);
            } catch (java.util.NoSuchElementException e) {
                thrown = true;
            }
            CHECK.due("led " + count + " throws", thrown, true);
        }

        static int errorPart(String error, int what) {
            String[] all = "true blot fold shift turn swap stain erase stretch sneeze unknown".split(" ");
            String[] parts = error.split(" ");
            if (what == 0) {
                return java.util.Arrays.asList(all).indexOf(parts[0]);
            }
            if (what >= parts.length) {
                return -2;
            }
            char c = parts[what].charAt(0);
            return c >= 'a' ? c - 'a' : Integer.parseInt(parts[what]);
        }

        void callBehind() {
            int t = t();
            int p = p();
            int u = t();
            int m = m();
            int n = n(60);
            int number = n < 0 || n > 60 ? 2 : 0;
            Model then = number == 0 ? now.behind(n) : null;
            int why = !now.town(t) || !now.place(p) ? 1 : number;
            due("after " + t + " " + p + " " + n, x.after(t, p, n), why == 0 ? then.maps.get(t).at(p) - 'a' : -1, why);
            why = !now.town(t) || !now.town(u) ? 1 : number;
            int unlike = 0;
            for (int q : why == 0 ? now.places() : new ArrayList<Integer>()) {
                unlike += then.maps.get(t).at(q) != then.maps.get(u).at(q) ? 1 : 0;
            }
            due("unlike " + t + " " + u + " " + n, x.unlike(t, u, n), why == 0 ? unlike : -1, why);
            why = !now.town(t) ? 1 : number;
            int like = 0;
            for (int q : why == 0 ? now.places() : new ArrayList<Integer>()) {
                like += then.maps.get(t).at(q) == first.maps.get(t).at(q) ? 1 : 0;
            }
            due("trueOnes " + t + " " + n, x.trueOnes(t, n), why == 0 ? like : -1, why);
            why = !now.town(t) || !now.mark(m) ? 1 : number;
            List<Integer> sizes = why == 0 ? then.areas(t, (char) ('a' + m)) : List.of();
            int sum = 0;
            int most = 0;
            for (int size : sizes) {
                sum += size;
                most = Math.max(most, size);
            }
            String rest = " " + t + " " + m + " " + n;
            due("many" + rest, x.many(t, m, n), why == 0 ? sum : -1, why);
            due("areas" + rest, x.areas(t, m, n), why == 0 ? sizes.size() : -1, why);
            due("largest" + rest, x.largest(t, m, n), why == 0 ? most : -1, why);
            why = !now.town(t) || !now.place(p) || !now.mark(m) ? 1 : 0;
            due("when " + t + " " + p + " " + m, x.when(t, p, m), why == 0 ? when(t, p, m) : -1, why);
        }

        int when(int t, int p, int m) {
            Model then = now.same();
            for (int n = 0; n <= 60; n++) {
                if (then.maps.get(t).at(p) == 'a' + m) {
                    return n;
                }
                then.round();
            }
            return -2;
        }

        void callSource() {
            int t = t();
            int p = p();
            int n = n(60);
            int why = !now.town(t) || !now.place(p) ? 1 : n < 0 || n > 60 ? 2 : 0;
            int origin = -1;
            int blame = 0;
            if (why == 0) {
                Model then = now.behind(n);
                origin = then.maps.get(t).from[p % 10][p / 10];
                for (int u = 0; u < now.towns; u++) {
                    Model mended = now.same();
                    mended.errors[u] = "true";
                    blame |= mended.behind(n).maps.get(t).at(p) != then.maps.get(t).at(p) ? 1 << u : 0;
                }
            }
            due("origin " + t + " " + p + " " + n, x.origin(t, p, n), origin, why);
            due("blame " + t + " " + p + " " + n, x.blame(t, p, n), why == 0 ? blame : -1, why);
        }

        void callRing() {
            int t = t();
            boolean town = now.town(t);
            int loop = 0;
            int depth = -2;
            int at = t;
            for (int i = 0; town && i < 20 && depth < 0 && loop == 0; i++) {
                if (now.copies[at] < 0) {
                    depth = i;
                } else {
                    at = now.copies[at];
                    loop = at == t ? i + 1 : 0;
                }
            }
            due("loop " + t, x.loop(t), town ? loop : -1, town ? 0 : 1);
            due("depth " + t, x.depth(t), town ? depth : -1, town ? 0 : 1);
            int n = n(12);
            int why = !town ? 1 : n < 0 || n > 12 ? 2 : 0;
            java.math.BigInteger[] scale = why == 0 ? scale(t, n) : null;
            due("scale " + t + " " + n + " upper", x.scale(t, n, false), why == 0 ? scale[0].longValueExact() : -1, why);
            due("scale " + t + " " + n + " lower", x.scale(t, n, true), why == 0 ? scale[1].longValueExact() : -1, why);
            callRound();
        }

        java.math.BigInteger[] scale(int t, int n) {
            if (n == 0 || now.copies[t] < 0) {
                return new java.math.BigInteger[] {java.math.BigInteger.ONE, java.math.BigInteger.ONE};
            }
            java.math.BigInteger[] s = scale(now.copies[t], n - 1);
            if (now.errors[t].startsWith("stretch")) {
                s[0] = s[0].multiply(java.math.BigInteger.valueOf(errorPart(now.errors[t], 1)));
                s[1] = s[1].multiply(java.math.BigInteger.TEN);
                java.math.BigInteger common = s[0].gcd(s[1]);
                s[0] = s[0].divide(common);
                s[1] = s[1].divide(common);
            }
            return s;
        }

        void callRound() {
            for (String error : now.errors) {
                if (error.startsWith("sneeze")) {
                    due("round", x.round(up(2) == 0), -1, 6);
                    return;
                }
            }
            int[] found = comesAgain(400);
            due("round false", x.round(false), found[1], 0);
            due("round true", x.round(true), found[0], 0);
        }

        /** Rest and length; -2 if not behind so many. */
        int[] comesAgain(int most) {
            Map<String, Integer> met = new HashMap<>();
            Model then = now.same();
            for (int n = 0; n <= most; n++) {
                Integer before = met.putIfAbsent(then.allMaps(), n);
                if (before != null) {
                    return new int[] {before, n - before};
                }
                then.round();
            }
            return new int[] {-2, -2};
        }

        void callStrokes() {
            int t = t();
            int p = p();
            int m = m();
            boolean known = now.town(t) && now.place(p) && now.mark(m);
            due("ink " + t + " " + p + " " + m, x.ink(t, p, m), known ? now.ink(t, p, (char) ('a' + m)) : -1, known ? 0 : 1);
            int due = m();
            int n = n(12);
            int u = up(2) == 0 ? t() : t;
            if (now.wide * now.high > 16) {
                n = Math.min(n, 3);
            }
            int why = !known || !now.town(u) || !now.mark(due) ? 1 : n < 0 || n > 12 ? 2 : 0;
            List<Integer> best = why == 0 ? strokes(t, m, u, p, due, n) : null;
            String rest = " " + t + " " + m + " " + u + " " + p + " " + due + " " + n;
            int count = best == null ? -2 : best.size();
            due("strokes" + rest, x.strokes(t, m, u, p, due, n), why == 0 ? count : -1, why);
            for (int i = -1; i <= 3; i++) {
                boolean there = best != null && i >= 0 && i < best.size();
                due("strokeAt" + rest + " " + i, x.strokeAt(t, m, u, p, due, n, i),
                    there ? best.get(i) : -1, why != 0 ? why : there ? 0 : 1);
            }
        }

        List<Integer> strokes(int t, int m, int u, int p, int due, int n) {
            List<Integer> all = now.places();
            for (int count = 0; count <= 3; count++) {
                List<Integer> picked = new ArrayList<>();
                if (pick(all, 0, count, picked, new int[] {t, m, u, p, due, n})) {
                    return picked;
                }
            }
            return null;
        }

        private boolean pick(List<Integer> all, int from, int left, List<Integer> picked, int[] what) {
            if (left == 0) {
                Model drawn = now.same();
                for (int q : picked) {
                    drawn.maps.get(what[0]).mark[q % 10][q / 10] = (char) ('a' + what[1]);
                }
                for (int i = 0; i < what[5]; i++) {
                    drawn.round();
                }
                return drawn.maps.get(what[2]).at(what[3]) == 'a' + what[4];
            }
            for (int i = from; i < all.size(); i++) {
                picked.add(all.get(i));
                if (pick(all, i + 1, left - 1, picked, what)) {
                    return true;
                }
                picked.remove(picked.size() - 1);
            }
            return false;
        }

        void callSeen() {
            int judge = -2;
            for (int i = seen.size() - 1; i >= 0; i--) {
                judge = isSo(first, seen.get(i)) ? judge : i;
            }
            due("judge", x.judge(), judge, 0);
            List<Integer> unknown = new ArrayList<>();
            for (int t = 0; t < now.towns; t++) {
                if (first.errors[t].equals("unknown")) {
                    unknown.add(t);
                }
            }
            int t = t();
            if (unknown.isEmpty() || guesses.isEmpty()) {
                due("fits", x.fits(), -1, 6);
                due("fit", x.fit(0, t), -1, 6);
                due("surely", x.surely(t), -1, 6);
                return;
            }
            if (rows == null) {
                rows = new ArrayList<>();
                guess(first.same(), unknown, new int[unknown.size()], 0);
            }
            due("fits", x.fits(), rows.size(), 0);
            int j = unknown.indexOf(t);
            int i = up(rows.size() + 2) - 1;
            boolean there = j >= 0 && i >= 0 && i < rows.size();
            due("fit " + i + " " + t, x.fit(i, t), there ? rows.get(i)[j] : -1, there ? 0 : 1);
            int sure = rows.isEmpty() || j < 0 ? -2 : rows.get(0)[j];
            for (int[] row : rows) {
                sure = j >= 0 && row[j] == sure ? sure : -2;
            }
            due("surely " + t, x.surely(t), j >= 0 ? sure : -1, j >= 0 ? 0 : 1);
        }

        boolean isSo(Model from, int[] s) {
            return from.behind(s[1]).maps.get(s[0]).at(s[2]) == s[3];
        }

        void guess(Model trial, List<Integer> unknown, int[] row, int done) {
            if (done == unknown.size()) {
                for (int[] s : seen) {
                    if (!isSo(trial, s)) {
                        return;
                    }
                }
                rows.add(row.clone());
                return;
            }
            for (int g = 0; g < guesses.size(); g++) {
                row[done] = g;
                trial.errors[unknown.get(done)] = guesses.get(g);
                guess(trial, unknown, row, done + 1);
            }
        }

        void remember(Model before) {
            olds.add(before);
            if (olds.size() > 12) {
                olds.remove(0);
            }
        }

        void callAct() {
            int t = t();
            int u = t();
            int p = p();
            int m = m();
            Model before = now.same();
            switch (up(5)) {
                case 0:
                    int n = up(10) == 0 ? up(2) * 61 : 1 + up(up(3) == 0 ? 60 : 3);
                    boolean good = n >= 1 && n <= 60;
                    if (good) {
                        now = now.behind(n);
                        now.gone += n;
                        remember(before);
                    }
                    due("rounds " + n, x.rounds(n), good ? now.gone : -1, good ? 0 : 2);
                    break;
                case 1: {
                    int why = !now.town(t) || !now.place(p) || !now.mark(m) ? 1
                        : now.maps.get(t).at(p) == 'a' + m ? 5 : 0;
                    if (why == 0) {
                        now = now.same();
                        now.maps.get(t).mark[p % 10][p / 10] = (char) ('a' + m);
                        remember(before);
                    }
                    due("draw " + t + " " + p + " " + m, x.draw(t, p, m) ? 1 : 0, why == 0 ? 1 : 0, why);
                    break;
                }
                case 2: {
                    int why = !now.town(t) ? 1 : now.errors[t].equals("true") ? 5 : 0;
                    if (why == 0) {
                        now.errors[t] = "true";
                        remember(before);
                    }
                    due("mend " + t, x.mend(t) ? 1 : 0, why == 0 ? 1 : 0, why);
                    break;
                }
                case 3: {
                    int why = !now.town(t) || !now.town(u) ? 1 : now.copies[t] == u ? 5 : 0;
                    if (why == 0) {
                        now.copies[t] = u;
                        remember(before);
                    }
                    due("copy " + t + " " + u, x.copy(t, u) ? 1 : 0, why == 0 ? 1 : 0, why);
                    break;
                }
                default:
                    int[] edges = {-1, 0, 65536, 65537, up(65537)};
                    int v = edges[up(5)];
                    boolean right = v >= 0 && v <= 65536;
                    now.seed = right ? v : now.seed;
                    due("seed " + v, x.seed(v) ? 1 : 0, right ? 1 : 0, right ? 0 : 2);
                    break;
            }
        }

        void callPast() {
            switch (up(4)) {
                case 0:
                    boolean any = !olds.isEmpty();
                    if (any) {
                        now = olds.remove(olds.size() - 1);
                    }
                    due("undo", x.undo() ? 1 : 0, any ? 1 : 0, any ? 0 : 6);
                    break;
                case 1:
                    boolean room = keeps.size() < 3;
                    if (room && up(3) == 0) {
                        keeps.add(now.same());
                        due("keep", x.keep(), keeps.size() - 1, 0);
                    } else if (!room) {
                        due("keep", x.keep(), -1, 3);
                    }
                    break;
                case 2:
                    int k = up(6) - 1;
                    boolean there = k >= 0 && k < keeps.size();
                    if (there) {
                        now = keeps.get(k).same();
                        olds.clear();
                    }
                    due("back " + k, x.back(k) ? 1 : 0, there ? 1 : 0, there ? 0 : 1);
                    break;
                default:
                    break;
            }
            int copying = 0;
            for (int c : now.copies) {
                copying += c >= 0 ? 1 : 0;
            }
            int[] sizes = {now.wide, now.high, now.marks, now.towns, copying, guesses.size(), seen.size(),
                now.gone, now.seed, olds.size(), keeps.size(), 0, -1};
            for (int what = 0; what < sizes.length; what++) {
                CHECK.due("size " + what, x.size(what), sizes[what]);
            }
        }
    }
}
