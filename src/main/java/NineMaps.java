import java.util.Arrays;
import java.util.NoSuchElementException;

/** Towns as maps of marks, each of which builds itself by another one's map, with one error. */
public final class NineMaps {
    public static final int NONE = -1;

    /** What answers "there is none" where NONE would mean "refused". */
    private static final int NOTHING = -2;

    private static final int TAPE = 900;
    private static final int TOWNS = 6;
    /** Maps are held row by row, always this wide: so a place has the same number in every ring. */
    private static final int SIDE = 6;
    private static final int PLACES = SIDE * SIDE;
    /** Numbers of which an ERROR is held: its sort, and three that are told of it. */
    private static final int PARTS = 4;
    private static final int GUESSES = 5;
    private static final int UNKNOWNS = 4;
    /** GUESSES to the power of UNKNOWNS. */
    private static final int ROWS = 625;
    private static final int SEEN = 8;
    private static final int BEHIND = 60;
    private static final int STROKES_BEHIND = 12;
    private static final int STROKES_MOST = 3;
    private static final int AGAIN_BEHIND = 400;
    private static final int OLDS = 12;
    private static final int KEEPS = 3;
    private static final int SIDES = 4;
    private static final int SEEDS = 65_537;

    private static final int TRUE = 0;
    private static final int BLOT = 1;
    private static final int FOLD = 2;
    private static final int SHIFT = 3;
    private static final int TURN = 4;
    private static final int SWAP = 5;
    private static final int STAIN = 6;
    private static final int ERASE = 7;
    private static final int STRETCH = 8;
    private static final int SNEEZE = 9;
    private static final int UNKNOWN = 10;

    private static final int NO_SUCH = 1;
    private static final int NUMBER = 2;
    private static final int NO_ROOM = 3;
    private static final int FAULTY = 4;
    private static final int NOT_SO = 5;
    private static final int THERE_IS_NONE = 6;

    private final int[] tape = new int[TAPE];
    private int tapeLength = 0;
    private Ring told = new Ring();
    private Ring spare = new Ring();
    private final World now = new World();
    private final World other = new World();
    private final World another = new World();
    private final Past past = new Past();
    private final Chain chain = new Chain(now);
    private final StrokeSearch search = new StrokeSearch(chain);
    private final FitSearch fitting = new FitSearch(chain);
    private final Ground ground = new Ground();
    private final int[] seenMap = new int[PLACES];
    private final int[] scratch = new int[TOWNS * PLACES];
    private int refusal = 0;
    private int faultNumber = 0;
    private int faultPlace = NONE;

    public NineMaps() {
    }

    // ---- the ring

    public int feed(int a, int b, int c, int d, int e) {
        if (tapeLength + 20 > TAPE) {
            return NONE;
        }
        append(a);
        append(b);
        append(c);
        append(d);
        append(e);
        return tapeLength;
    }

    private void append(int four) {
        for (int shift = 24; shift >= 0; shift -= 8) {
            tape[tapeLength] = (four >>> shift) & 255;
            tapeLength++;
        }
    }

    public int ring(int n) {
        if (n < 0 || n > tapeLength) {
            return refused(NUMBER);
        }
        tapeLength = 0;
        Reader reader = new Reader(tape, n, spare);
        boolean good = reader.read();
        faultNumber = reader.number;
        faultPlace = reader.place;
        if (!good) {
            return refused(FAULTY);
        }
        Ring gone = told;
        told = spare;
        spare = gone;
        now.become(told.begin);
        past.forgetAll();
        fitting.known = false;
        return answered(now.towns);
    }

    public int fault() {
        return faultNumber;
    }

    public int where() {
        return refusal == FAULTY ? faultPlace : NONE;
    }

    // ---- now

    public int copies(int t) {
        if (!isTown(t)) {
            return refused(NO_SUCH);
        }
        return answered(now.copied[t]);
    }

    public int error(int t, int what) {
        if (!isTown(t) || what < 0 || what >= PARTS) {
            return refused(NO_SUCH);
        }
        return answered(now.errors[PARTS * t + what]);
    }

    public int cell(int t, int place) {
        if (!isTown(t) || !isPlace(place)) {
            return refused(NO_SUCH);
        }
        return answered(now.cells[PLACES * t + inner(place)]);
    }

    public int first(int t, int place) {
        if (!isTown(t) || !isPlace(place)) {
            return refused(NO_SUCH);
        }
        return answered(told.begin.cells[PLACES * t + inner(place)]);
    }

    // ---- behind so many rounds (0 .. 60)

    public int after(int t, int place, int n) {
        if (!isTown(t) || !isPlace(place)) {
            return refused(NO_SUCH);
        }
        if (!isBehind(n, BEHIND)) {
            return refused(NUMBER);
        }
        return answered(chain.markBehind(now, t, inner(place), n));
    }

    public int many(int t, int mark, int n) {
        if (!isTown(t) || !isMark(mark)) {
            return refused(NO_SUCH);
        }
        if (!isBehind(n, BEHIND)) {
            return refused(NUMBER);
        }
        chain.mapBehind(now, t, n, seenMap);
        int count = 0;
        for (int place = 0; place < PLACES; place++) {
            if (now.holds(place) && seenMap[place] == mark) {
                count++;
            }
        }
        return answered(count);
    }

    public int unlike(int t, int u, int n) {
        if (!isTown(t) || !isTown(u)) {
            return refused(NO_SUCH);
        }
        if (!isBehind(n, BEHIND)) {
            return refused(NUMBER);
        }
        chain.mapBehind(now, t, n, seenMap);
        chain.mapBehind(now, u, n, ground.map);
        return answered(now.places() - likeOnes(ground.map, 0));
    }

    public int trueOnes(int t, int n) {
        if (!isTown(t)) {
            return refused(NO_SUCH);
        }
        if (!isBehind(n, BEHIND)) {
            return refused(NUMBER);
        }
        chain.mapBehind(now, t, n, seenMap);
        return answered(likeOnes(told.begin.cells, PLACES * t));
    }

    /** How many places of seenMap are as in the map that begins there in these cells. */
    private int likeOnes(int[] cells, int begin) {
        int count = 0;
        for (int place = 0; place < PLACES; place++) {
            if (now.holds(place) && seenMap[place] == cells[begin + place]) {
                count++;
            }
        }
        return count;
    }

    public int when(int t, int place, int mark) {
        if (!isTown(t) || !isPlace(place) || !isMark(mark)) {
            return refused(NO_SUCH);
        }
        other.become(now);
        int cell = PLACES * t + inner(place);
        for (int n = 0; n <= BEHIND; n++) {
            if (other.cells[cell] == mark) {
                return answered(n);
            }
            other.goOn(scratch);
        }
        return answered(NOTHING);
    }

    public int areas(int t, int mark, int n) {
        if (!isTown(t) || !isMark(mark)) {
            return refused(NO_SUCH);
        }
        if (!isBehind(n, BEHIND)) {
            return refused(NUMBER);
        }
        surveyBehind(t, mark, n);
        return answered(ground.count);
    }

    public int largest(int t, int mark, int n) {
        if (!isTown(t) || !isMark(mark)) {
            return refused(NO_SUCH);
        }
        if (!isBehind(n, BEHIND)) {
            return refused(NUMBER);
        }
        surveyBehind(t, mark, n);
        return answered(ground.most);
    }

    private void surveyBehind(int t, int mark, int n) {
        chain.mapBehind(now, t, n, ground.map);
        ground.survey(now, mark);
    }

    public long scale(int t, int n, boolean lower) {
        if (!isTown(t)) {
            return refused(NO_SUCH);
        }
        if (!isBehind(n, STROKES_BEHIND)) {
            return refused(NUMBER);
        }
        long upper = 1;
        long under = 1;
        int town = t;
        for (int left = n; left > 0 && town >= 0; left--) {
            if (now.errors[PARTS * town] == STRETCH) {
                upper *= now.errors[PARTS * town + 1];
                under *= 10;
            }
            town = now.copied[town];
        }
        long common = commonDivisor(upper, under);
        answered(0);
        return (lower ? under : upper) / common;
    }

    /** Of two numbers above 0; so it is above 0 itself. */
    private static long commonDivisor(long a, long b) {
        long high = a;
        long low = b;
        for (int i = 0; i < 200 && low > 0; i++) {
            long rest = high % low;
            high = low;
            low = rest;
        }
        return high > 0 ? high : 1;
    }

    // ---- where it comes from

    public int round(boolean rest) {
        if (now.towns == 0) {
            return refused(NO_SUCH);
        }
        if (now.sneezes()) {
            return refused(THERE_IS_NONE);
        }
        int length = roundLength();
        int begin = length == 0 ? 0 : roundBegin(length);
        if (length == 0 || begin + length > AGAIN_BEHIND) {
            return answered(NOTHING);
        }
        return answered(rest ? begin : length);
    }

    /**
     * The length, 0 if none is found. One world stays, another goes on; it stays twice as long each
     * time (Brent's way), so that no past worlds are held: with rest and length of 400 in all it
     * stays at 511 at the latest, and is met by 911.
     */
    private int roundLength() {
        other.become(now);
        another.become(now);
        int length = 0;
        int stay = 1;
        for (int i = 0; i < 2 * AGAIN_BEHIND + 200; i++) {
            another.goOn(scratch);
            length++;
            if (another.looksLike(other)) {
                return length;
            }
            if (length == stay) {
                other.become(another);
                stay *= 2;
                length = 0;
            }
        }
        return 0;
    }

    private int roundBegin(int length) {
        other.become(now);
        another.become(now);
        for (int i = 0; i < length; i++) {
            another.goOn(scratch);
        }
        for (int begin = 0; begin <= AGAIN_BEHIND; begin++) {
            if (another.looksLike(other)) {
                return begin;
            }
            other.goOn(scratch);
            another.goOn(scratch);
        }
        return AGAIN_BEHIND + 1;
    }

    public int origin(int t, int place, int n) {
        if (!isTown(t) || !isPlace(place)) {
            return refused(NO_SUCH);
        }
        if (!isBehind(n, BEHIND)) {
            return refused(NUMBER);
        }
        chain.markBehind(now, t, inner(place), n);
        int from = chain.sourceOf(inner(place));
        return answered(from == NONE ? NOTHING : 100 * chain.beginTown() + outer(from));
    }

    public int blame(int t, int place, int n) {
        if (!isTown(t) || !isPlace(place)) {
            return refused(NO_SUCH);
        }
        if (!isBehind(n, BEHIND)) {
            return refused(NUMBER);
        }
        int mark = chain.markBehind(now, t, inner(place), n);
        int bits = 0;
        for (int town = 0; town < now.towns; town++) {
            if (now.errors[PARTS * town] != TRUE) {
                other.become(now);
                other.makeTrue(town);
                if (chain.markBehind(other, t, inner(place), n) != mark) {
                    bits |= 1 << town;
                }
            }
        }
        return answered(bits);
    }

    public int loop(int t) {
        if (!isTown(t)) {
            return refused(NO_SUCH);
        }
        int town = now.copied[t];
        for (int length = 1; length <= TOWNS && town >= 0; length++) {
            if (town == t) {
                return answered(length);
            }
            town = now.copied[town];
        }
        return answered(0);
    }

    public int depth(int t) {
        if (!isTown(t)) {
            return refused(NO_SUCH);
        }
        int town = t;
        for (int away = 0; away < TOWNS; away++) {
            if (now.copied[town] < 0) {
                return answered(away);
            }
            town = now.copied[town];
        }
        return answered(NOTHING);
    }

    // ---- strokes, ink

    public int strokes(int t, int mark, int u, int place, int due, int n) {
        int why = strokeRefusal(t, mark, u, place, due, n);
        if (why != 0) {
            return refused(why);
        }
        return answered(search.fewest(now, t, mark, u, inner(place), due, n));
    }

    public int strokeAt(int t, int mark, int u, int place, int due, int n, int i) {
        int why = strokeRefusal(t, mark, u, place, due, n);
        if (why != 0) {
            return refused(why);
        }
        int count = search.fewest(now, t, mark, u, inner(place), due, n);
        if (i < 0 || i >= count) {
            return refused(NO_SUCH);
        }
        return answered(outer(search.picked[i]));
    }

    private int strokeRefusal(int t, int mark, int u, int place, int due, int n) {
        if (!isTown(t) || !isMark(mark) || !isTown(u) || !isPlace(place) || !isMark(due)) {
            return NO_SUCH;
        }
        return isBehind(n, STROKES_BEHIND) ? 0 : NUMBER;
    }

    public int ink(int t, int place, int mark) {
        if (!isTown(t) || !isPlace(place) || !isMark(mark)) {
            return refused(NO_SUCH);
        }
        System.arraycopy(now.cells, PLACES * t, ground.map, 0, PLACES);
        return answered(ground.leastInk(now, inner(place), mark));
    }

    // ---- what was seen

    public int judge() {
        if (now.towns == 0) {
            return refused(NO_SUCH);
        }
        return answered(fitting.firstNotSo(told, told.begin));
    }

    public int fits() {
        int why = fitRefusal();
        if (why != 0) {
            return refused(why);
        }
        fitting.find(told, other);
        return answered(fitting.count);
    }

    public int fit(int i, int t) {
        int why = fitRefusal();
        if (why != 0) {
            return refused(why);
        }
        fitting.find(told, other);
        int unknown = isTown(t) ? told.unknownNumber(t) : NONE;
        if (unknown == NONE || i < 0 || i >= fitting.count) {
            return refused(NO_SUCH);
        }
        return answered(fitting.guessIn(told, fitting.rows[i], unknown));
    }

    public int surely(int t) {
        int why = fitRefusal();
        if (why != 0) {
            return refused(why);
        }
        int unknown = isTown(t) ? told.unknownNumber(t) : NONE;
        if (unknown == NONE) {
            return refused(NO_SUCH);
        }
        fitting.find(told, other);
        return answered(fitting.sureGuess(told, unknown));
    }

    private int fitRefusal() {
        if (now.towns == 0) {
            return NO_SUCH;
        }
        return told.unknownCount() == 0 || told.guessCount == 0 ? THERE_IS_NONE : 0;
    }

    // ---- acts

    public int rounds(int n) {
        if (now.towns == 0) {
            return refused(NO_SUCH);
        }
        if (n < 1 || n > BEHIND) {
            return refused(NUMBER);
        }
        past.remember(now);
        for (int i = 0; i < n; i++) {
            now.goOn(scratch);
        }
        now.gone += n;
        return answered(now.gone);
    }

    public boolean draw(int t, int place, int mark) {
        if (!isTown(t) || !isPlace(place) || !isMark(mark)) {
            return denied(NO_SUCH);
        }
        int cell = PLACES * t + inner(place);
        if (now.cells[cell] == mark) {
            return denied(NOT_SO);
        }
        past.remember(now);
        now.cells[cell] = mark;
        return granted();
    }

    public boolean mend(int t) {
        if (!isTown(t)) {
            return denied(NO_SUCH);
        }
        if (now.errors[PARTS * t] == TRUE) {
            return denied(NOT_SO);
        }
        past.remember(now);
        now.makeTrue(t);
        return granted();
    }

    public boolean copy(int t, int u) {
        if (!isTown(t) || !isTown(u)) {
            return denied(NO_SUCH);
        }
        if (now.copied[t] == u) {
            return denied(NOT_SO);
        }
        past.remember(now);
        now.copied[t] = u;
        return granted();
    }

    public boolean seed(int v) {
        if (now.towns == 0) {
            return denied(NO_SUCH);
        }
        if (v < 0 || v >= SEEDS) {
            return denied(NUMBER);
        }
        now.sown = v;
        return granted();
    }

    public boolean undo() {
        if (past.oldCount == 0) {
            return denied(THERE_IS_NONE);
        }
        past.recall(now);
        return granted();
    }

    public int keep() {
        if (now.towns == 0) {
            return refused(NO_SUCH);
        }
        if (past.keepCount >= KEEPS) {
            return refused(NO_ROOM);
        }
        return answered(past.hold(now));
    }

    public boolean back(int keep) {
        if (keep < 0 || keep >= past.keepCount) {
            return denied(NO_SUCH);
        }
        now.become(past.keeps[keep]);
        past.oldCount = 0;
        return granted();
    }

    // ---- what is told

    public int led(int i) throws NoSuchElementException {
        int count = 0;
        for (int town = 0; town < now.towns; town++) {
            if (isLed(town)) {
                if (count == i) {
                    return town;
                }
                count++;
            }
        }
        throw new NoSuchElementException();
    }

    private boolean isLed(int town) {
        for (int cell = PLACES * town; cell < PLACES * (town + 1); cell++) {
            if (now.cells[cell] != told.begin.cells[cell]) {
                return true;
            }
        }
        return false;
    }

    public int size(int what) {
        switch (what) {
            case 0: return now.wide;
            case 1: return now.high;
            case 2: return told.marks;
            case 3: return now.towns;
            case 4: return now.copyingTowns();
            case 5: return told.guessCount;
            case 6: return told.seenCount;
            case 7: return now.gone;
            case 8: return now.sown;
            case 9: return past.oldCount;
            case 10: return past.keepCount;
            case 11: return tapeLength;
            default: return NONE;
        }
    }

    public int trouble() {
        return refusal;
    }

    // ---- what the calls share

    private int refused(int number) {
        refusal = number;
        return NONE;
    }

    private int answered(int value) {
        refusal = 0;
        return value;
    }

    private boolean denied(int number) {
        refusal = number;
        return false;
    }

    private boolean granted() {
        refusal = 0;
        return true;
    }

    private boolean isTown(int t) {
        return t >= 0 && t < now.towns;
    }

    private boolean isMark(int mark) {
        return mark >= 0 && mark < told.marks;
    }

    private boolean isPlace(int place) {
        return place >= 0 && place / 10 < now.wide && place % 10 < now.high;
    }

    private static boolean isBehind(int n, int most) {
        return n >= 0 && n <= most;
    }

    /** From the number of a place in calls to that in maps. */
    private static int inner(int place) {
        return SIDE * (place % 10) + place / 10;
    }

    /** From the number of a place in maps to that in calls. */
    private static int outer(int place) {
        return 10 * (place % SIDE) + place / SIDE;
    }

    /** All that ACTS change, and the measures by which ROUNDS go. */
    private static final class World {
        int wide = 0;
        int high = 0;
        int towns = 0;
        final int[] cells = new int[TOWNS * PLACES];
        final int[] copied = new int[TOWNS];
        final int[] errors = new int[TOWNS * PARTS];
        int sown = 0;
        int gone = 0;

        void become(World model) {
            wide = model.wide;
            high = model.high;
            towns = model.towns;
            System.arraycopy(model.cells, 0, cells, 0, cells.length);
            System.arraycopy(model.copied, 0, copied, 0, copied.length);
            System.arraycopy(model.errors, 0, errors, 0, errors.length);
            sown = model.sown;
            gone = model.gone;
        }

        void clear() {
            wide = 0;
            high = 0;
            towns = 0;
            Arrays.fill(cells, 0);
            Arrays.fill(copied, NOTHING);
            for (int town = 0; town < TOWNS; town++) {
                makeTrue(town);
            }
            sown = 0;
            gone = 0;
        }

        void makeTrue(int town) {
            errors[PARTS * town] = TRUE;
            for (int part = 1; part < PARTS; part++) {
                errors[PARTS * town + part] = NOTHING;
            }
        }

        int places() {
            return wide * high;
        }

        boolean holds(int place) {
            return place % SIDE < wide && place / SIDE < high;
        }

        int copyingTowns() {
            int count = 0;
            for (int town = 0; town < towns; town++) {
                if (copied[town] >= 0) {
                    count++;
                }
            }
            return count;
        }

        boolean sneezes() {
            for (int town = 0; town < towns; town++) {
                if (errors[PARTS * town] == SNEEZE) {
                    return true;
                }
            }
            return false;
        }

        boolean looksLike(World model) {
            for (int cell = 0; cell < PLACES * towns; cell++) {
                if (cells[cell] != model.cells[cell]) {
                    return false;
                }
            }
            return true;
        }

        /** A ROUND; gone is left to the act, since worlds that only look ahead don't count. */
        void goOn(int[] before) {
            System.arraycopy(cells, 0, before, 0, cells.length);
            for (int town = 0; town < towns; town++) {
                if (copied[town] >= 0) {
                    int drawn = NONE;
                    if (errors[PARTS * town] == SNEEZE) {
                        sown = nextSeed(sown);
                        drawn = drawnPlace(sown);
                    }
                    build(town, before, drawn);
                }
            }
        }

        private void build(int town, int[] before, int drawn) {
            int model = PLACES * copied[town];
            for (int row = 0; row < high; row++) {
                for (int column = 0; column < wide; column++) {
                    int place = SIDE * row + column;
                    cells[PLACES * town + place] = markFor(town, before, model, place, drawn);
                }
            }
        }

        static int nextSeed(int seed) {
            return (75 * seed + 74) % SEEDS;
        }

        /** The place in maps of a DRAW, which counts row by row in the ring's own width. */
        int drawnPlace(int draw) {
            if (wide <= 0 || high <= 0) {
                return NONE;
            }
            int place = draw % (wide * high);
            return SIDE * (place / wide) + place % wide;
        }

        /** The mark by a town's ERROR of one place, of the map that begins at model in maps. */
        int markFor(int town, int[] maps, int model, int place, int drawn) {
            int from = source(town, maps, model, place, drawn);
            int sort = errors[PARTS * town];
            int part = errors[PARTS * town + 1];
            if (from == NONE) {
                return sort == ERASE ? 0 : part;
            }
            int mark = maps[model + from];
            if (sort == SWAP) {
                int partner = errors[PARTS * town + 2];
                return mark == part ? partner : mark == partner ? part : mark;
            }
            return mark;
        }

        /** The place of the copied map from which the mark comes by a town's ERROR; NONE if from none. */
        int source(int town, int[] maps, int model, int place, int drawn) {
            int column = place % SIDE;
            int row = place / SIDE;
            int part = errors[PARTS * town + 1];
            int second = errors[PARTS * town + 2];
            switch (errors[PARTS * town]) {
                case BLOT:
                    return column == second && row == errors[PARTS * town + 3] ? NONE : place;
                case FOLD:
                    int folded = 2 * part - 1 - column;
                    return column < part ? place : SIDE * row + (folded > 0 ? folded : 0);
                case SHIFT:
                    return shiftSource(column - part, row - second);
                case TURN:
                    return SIDE * (high - 1 - row) + wide - 1 - column;
                case STAIN:
                    return stainSource(maps, model, place, part);
                case ERASE:
                    return maps[model + place] == part ? NONE : place;
                case STRETCH:
                    return SIDE * (row * part / 10) + column * part / 10;
                case SNEEZE:
                    return place == drawn ? NONE : place;
                default:
                    return place;
            }
        }

        private int shiftSource(int column, int row) {
            if (wide <= 0 || high <= 0) {
                return NONE;
            }
            // what is told is 5 at most: so often the length makes each number one above 0
            return SIDE * ((row + SIDE * high) % high) + (column + SIDE * wide) % wide;
        }

        /** The same places in the same order as beside, written out to keep calls few. */
        private int stainSource(int[] maps, int model, int place, int mark) {
            int column = place % SIDE;
            int row = place / SIDE;
            int at = model + place;
            if (maps[at] == mark) {
                return place;
            }
            if (column > 0 && maps[at - 1] == mark) {
                return place - 1;
            }
            if (column < wide - 1 && maps[at + 1] == mark) {
                return place + 1;
            }
            if (row > 0 && maps[at - SIDE] == mark) {
                return place - SIDE;
            }
            return row < high - 1 && maps[at + SIDE] == mark ? place + SIDE : place;
        }

        /** Left, right, above, below; NONE off the map. */
        int beside(int place, int side) {
            int column = place % SIDE;
            int row = place / SIDE;
            switch (side) {
                case 0: return column > 0 ? place - 1 : NONE;
                case 1: return column < wide - 1 ? place + 1 : NONE;
                case 2: return row > 0 ? place - SIDE : NONE;
                default: return row < high - 1 ? place + SIDE : NONE;
            }
        }

        boolean isEdge(int place) {
            int column = place % SIDE;
            int row = place / SIDE;
            return column == 0 || row == 0 || column == wide - 1 || row == high - 1;
        }
    }

    /** What was told: where all begins, the guesses, and what was seen. */
    private static final class Ring {
        int marks = 0;
        final World begin = new World();
        final long[] names = new long[TOWNS];
        final int[] guesses = new int[GUESSES * PARTS];
        int guessCount = 0;
        final int[] seenTown = new int[SEEN];
        final int[] seenBehind = new int[SEEN];
        final int[] seenPlace = new int[SEEN];
        final int[] seenMark = new int[SEEN];
        int seenCount = 0;

        void clear() {
            marks = 0;
            begin.clear();
            Arrays.fill(guesses, NOTHING);
            guessCount = 0;
            seenCount = 0;
        }

        int townNamed(long name) {
            for (int town = 0; town < begin.towns; town++) {
                if (names[town] == name) {
                    return town;
                }
            }
            return NONE;
        }

        boolean isUnknown(int town) {
            return begin.errors[PARTS * town] == UNKNOWN;
        }

        int unknownCount() {
            return unknownsBelow(begin.towns);
        }

        /** Which one of the unknown towns it is; NONE if its ERROR is told. */
        int unknownNumber(int town) {
            return isUnknown(town) ? unknownsBelow(town) : NONE;
        }

        private int unknownsBelow(int end) {
            int count = 0;
            for (int town = 0; town < end; town++) {
                if (isUnknown(town)) {
                    count++;
                }
            }
            return count;
        }
    }

    /** Reads THE TAPE into a Ring, up to the first FAULT. */
    private static final class Reader {
        private static final int FORM = 1;
        private static final int UNTOLD = 2;
        private static final int TOLD_AGAIN = 3;
        private static final int BOUNDS = 4;
        private static final int MANY = 5;
        private static final int LACKS = 6;
        private static final int LETTERS = 7;

        private static final int END = 0;
        private static final int WORD = 1;
        private static final int WHOLE = 2;
        private static final int SEMICOLON = 3;
        private static final int COMMA = 4;
        private static final int NO_TOKEN = 5;

        int number = 0;
        int place = NONE;
        private final int[] bytes;
        private final int end;
        private final Ring into;
        /** The TOKEN that comes now: its kind, its place, the place behind it, what it says. */
        private int kind = END;
        private int at = 0;
        private int behind = 0;
        private int whole = 0;
        private long word = 0;

        Reader(int[] tape, int n, Ring ring) {
            bytes = tape;
            end = Math.min(n, tape.length);
            into = ring;
        }

        boolean read() {
            into.clear();
            take();
            for (int lines = 0; lines <= TAPE; lines++) {
                int sort = lineSort();
                if (!mayCome(sort)) {
                    return false;
                }
                take();
                boolean good;
                switch (sort) {
                    case RING_LINE: good = readRing(); break;
                    case TOWN_LINE: good = readTown(); break;
                    case COPIES_LINE: good = readCopies(); break;
                    case GUESS_LINE: good = readGuess(); break;
                    default: good = readSeen(); break;
                }
                if (!good) {
                    return false;
                }
                if (kind == END) {
                    return into.begin.towns > 0 || fail(LACKS);
                }
                if (kind != SEMICOLON) {
                    return fail(FORM);
                }
                take();
            }
            return fail(FORM);
        }

        private boolean fail(int fault) {
            number = fault;
            place = at;
            return false;
        }

        private int failed(int fault) {
            fail(fault);
            return NONE;
        }

        // -- TOKENS

        private void take() {
            at = behind;
            while (at < end && bytes[at] == ' ') {
                at++;
            }
            behind = at;
            word = 0;
            while (behind < end && bytes[behind] >= 'a' && bytes[behind] <= 'z') {
                word = 32 * word + bytes[behind] - 'a' + 1;
                behind++;
            }
            if (behind > at) {
                kind = behind - at <= 8 ? WORD : NO_TOKEN;
                return;
            }
            whole = 0;
            while (behind < end && bytes[behind] >= '0' && bytes[behind] <= '9') {
                whole = 10 * whole + bytes[behind] - '0';
                behind++;
            }
            if (behind > at) {
                kind = behind - at <= 2 ? WHOLE : NO_TOKEN;
            } else if (at >= end) {
                kind = END;
            } else {
                kind = bytes[at] == ';' ? SEMICOLON : bytes[at] == ',' ? COMMA : NO_TOKEN;
                behind++;
            }
        }

        private boolean isWord(String text) {
            if (kind != WORD || behind - at != text.length()) {
                return false;
            }
            for (int i = 0; i < text.length(); i++) {
                if (bytes[at + i] != text.charAt(i)) {
                    return false;
                }
            }
            return true;
        }

        // -- parts of LINES

        private boolean wordDue(String text) {
            if (!isWord(text)) {
                return fail(FORM);
            }
            take();
            return true;
        }

        private int wholeDue(int low, int high) {
            if (kind != WHOLE) {
                return failed(FORM);
            }
            if (whole < low || whole > high) {
                return failed(BOUNDS);
            }
            int value = whole;
            take();
            return value;
        }

        /** A MARK unlike a first one; NONE as the first one lets all pass. */
        private int markDue(int first) {
            if (kind != WORD) {
                return failed(FORM);
            }
            int mark = bytes[at] - 'a';
            if (behind - at != 1 || mark >= into.marks) {
                return failed(LETTERS);
            }
            if (mark == first) {
                return failed(TOLD_AGAIN);
            }
            take();
            return mark;
        }

        private boolean isName() {
            return kind == WORD && !isWord("by") && lineSort() == NONE;
        }

        /** The town whose NAME stands here; it isn't taken yet, since more may be wrong with it. */
        private int townHere() {
            if (!isName()) {
                return failed(FORM);
            }
            int town = into.townNamed(word);
            return town == NONE ? failed(UNTOLD) : town;
        }

        // -- LINES

        private static final int RING_LINE = 0;
        private static final int TOWN_LINE = 1;
        private static final int COPIES_LINE = 2;
        private static final int GUESS_LINE = 3;
        private static final int SEEN_LINE = 4;

        private int lineSort() {
            return isWord("ring") ? RING_LINE
                : isWord("town") ? TOWN_LINE
                : isWord("copies") ? COPIES_LINE
                : isWord("guess") ? GUESS_LINE
                : isWord("seen") ? SEEN_LINE
                : NONE;
        }

        private boolean mayCome(int sort) {
            boolean begun = into.marks > 0;
            if (sort == NONE) {
                return fail(FORM);
            }
            if (sort == RING_LINE && begun) {
                return fail(TOLD_AGAIN);
            }
            if (isFull(sort)) {
                return fail(MANY);
            }
            return sort == RING_LINE || begun || fail(LACKS);
        }

        private boolean isFull(int sort) {
            return sort == TOWN_LINE && into.begin.towns >= TOWNS
                || sort == GUESS_LINE && into.guessCount >= GUESSES
                || sort == SEEN_LINE && into.seenCount >= SEEN;
        }

        private boolean readRing() {
            int wide = wordDue("wide") ? wholeDue(2, SIDE) : NONE;
            int high = wide != NONE && wordDue("high") ? wholeDue(2, SIDE) : NONE;
            int marks = high != NONE && wordDue("marks") ? wholeDue(2, 6) : NONE;
            if (marks == NONE) {
                return false;
            }
            into.begin.wide = wide;
            into.begin.high = high;
            into.marks = marks;
            return true;
        }

        private boolean readTown() {
            if (!isName()) {
                return fail(FORM);
            }
            if (into.townNamed(word) != NONE) {
                return fail(TOLD_AGAIN);
            }
            int town = into.begin.towns;
            into.names[town] = word;
            take();
            for (int row = 0; row < into.begin.high; row++) {
                if (row > 0) {
                    if (kind == SEMICOLON || kind == END) {
                        return fail(LACKS);
                    }
                    if (kind != COMMA) {
                        return fail(FORM);
                    }
                    take();
                }
                if (!readRow(PLACES * town + SIDE * row)) {
                    return false;
                }
            }
            into.begin.towns++;
            return true;
        }

        private boolean readRow(int cell) {
            if (kind != WORD) {
                return fail(FORM);
            }
            if (behind - at != into.begin.wide) {
                return fail(LETTERS);
            }
            for (int column = 0; column < into.begin.wide; column++) {
                int mark = bytes[at + column] - 'a';
                if (mark >= into.marks) {
                    return fail(LETTERS);
                }
                into.begin.cells[cell + column] = mark;
            }
            take();
            return true;
        }

        private boolean readCopies() {
            int town = townHere();
            if (town == NONE) {
                return false;
            }
            if (into.begin.copied[town] >= 0) {
                return fail(TOLD_AGAIN);
            }
            take();
            int model = townHere();
            if (model == NONE) {
                return false;
            }
            take();
            if (!wordDue("by")) {
                return false;
            }
            into.begin.copied[town] = model;
            int sort = errorSort();
            if (sort == UNKNOWN && into.unknownCount() >= UNKNOWNS) {
                return fail(MANY);
            }
            return readError(sort, into.begin.errors, PARTS * town);
        }

        private boolean readGuess() {
            int sort = errorSort();
            if (sort == UNKNOWN || sort == SNEEZE) {
                return fail(FORM);
            }
            if (!readError(sort, into.guesses, PARTS * into.guessCount)) {
                return false;
            }
            into.guessCount++;
            return true;
        }

        private boolean readSeen() {
            int town = townHere();
            if (town == NONE) {
                return false;
            }
            take();
            int rounds = wholeDue(1, 20);
            int column = rounds == NONE ? NONE : wholeDue(0, into.begin.wide - 1);
            int row = column == NONE ? NONE : wholeDue(0, into.begin.high - 1);
            int mark = row == NONE ? NONE : markDue(NONE);
            if (mark == NONE) {
                return false;
            }
            int i = into.seenCount;
            into.seenTown[i] = town;
            into.seenBehind[i] = rounds;
            into.seenPlace[i] = SIDE * row + column;
            into.seenMark[i] = mark;
            into.seenCount++;
            return true;
        }

        // -- ERRORS

        private int errorSort() {
            for (int sort = TRUE; sort <= UNKNOWN; sort++) {
                if (isWord(errorWord(sort))) {
                    return sort;
                }
            }
            return NONE;
        }

        private static String errorWord(int sort) {
            switch (sort) {
                case TRUE: return "true";
                case BLOT: return "blot";
                case FOLD: return "fold";
                case SHIFT: return "shift";
                case TURN: return "turn";
                case SWAP: return "swap";
                case STAIN: return "stain";
                case ERASE: return "erase";
                case STRETCH: return "stretch";
                case SNEEZE: return "sneeze";
                default: return "unknown";
            }
        }

        /** What is told of an ERROR, a sign for each part: partDue says what the signs mean. */
        private static String errorParts(int sort) {
            switch (sort) {
                case BLOT: return "mxy";
                case FOLD: return "f";
                case SHIFT: return "ss";
                case SWAP: return "mo";
                case STAIN: return "m";
                case ERASE: return "m";
                case STRETCH: return "t";
                case SNEEZE: return "m";
                default: return "";
            }
        }

        private boolean readError(int sort, int[] errors, int error) {
            if (sort == NONE) {
                return fail(FORM);
            }
            take();
            errors[error] = sort;
            String parts = errorParts(sort);
            for (int i = 0; i < parts.length(); i++) {
                int part = partDue(parts.charAt(i), errors[error + 1]);
                if (part == NONE) {
                    return false;
                }
                errors[error + 1 + i] = part;
            }
            return true;
        }

        private int partDue(char sign, int first) {
            switch (sign) {
                case 'm': return markDue(NONE);
                case 'o': return markDue(first);
                case 'x': return wholeDue(0, into.begin.wide - 1);
                case 'y': return wholeDue(0, into.begin.high - 1);
                case 'f': return wholeDue(1, into.begin.wide - 1);
                case 's': return wholeDue(0, 5);
                default: return wholeDue(5, 9);
            }
        }
    }

    /**
     * The copies by which one town's map behind so many ROUNDS is made. A map is made of one map a
     * ROUND earlier, that of one a ROUND earlier still, and so on: so what stands behind n ROUNDS
     * hangs on a single map NOW, and of the maps between only the places that matter are built.
     */
    private static final class Chain {
        private static final int STEPS = BEHIND + 1;

        private World world;
        /** The number of the last map, and that of the first: above 0 if that town copies nobody. */
        private int last = 0;
        private int begin = 0;
        private final int[] towns = new int[STEPS];
        private final int[] drawn = new int[STEPS];
        private final int[] maps = new int[STEPS * PLACES];
        /** The places of each map that matter, as a row and as bits. */
        private final int[] places = new int[STEPS * PLACES];
        private final int[] counts = new int[STEPS];
        private final long[] bits = new long[STEPS];

        Chain(World first) {
            world = first;
        }

        int markBehind(World from, int t, int place, int n) {
            lay(from, t, n);
            want(last, place);
            prepare();
            return build(place);
        }

        void mapBehind(World from, int t, int n, int[] map) {
            lay(from, t, n);
            for (int place = 0; place < PLACES; place++) {
                if (from.holds(place)) {
                    want(last, place);
                }
            }
            prepare();
            build(0);
            System.arraycopy(maps, PLACES * last, map, 0, PLACES);
        }

        private void lay(World from, int t, int n) {
            world = from;
            last = Math.max(0, Math.min(n, BEHIND));
            begin = last;
            towns[last] = t;
            counts[last] = 0;
            bits[last] = 0;
            for (int step = last; step > 0 && from.copied[towns[step]] >= 0; step--) {
                begin = step - 1;
                towns[begin] = from.copied[towns[step]];
                counts[begin] = 0;
                bits[begin] = 0;
            }
            if (from.sneezes()) {
                drawAll();
            }
        }

        /** All that sneeze draw, those beside the chain too: the SEED is one for all. */
        private void drawAll() {
            int seed = world.sown;
            for (int step = 1; step <= last; step++) {
                for (int town = 0; town < world.towns; town++) {
                    if (world.errors[PARTS * town] == SNEEZE) {
                        seed = World.nextSeed(seed);
                        if (step > begin && towns[step] == town) {
                            drawn[step] = world.drawnPlace(seed);
                        }
                    }
                }
            }
        }

        private void want(int step, int place) {
            long bit = 1L << place;
            if ((bits[step] & bit) == 0) {
                bits[step] |= bit;
                places[PLACES * step + counts[step]] = place;
                counts[step]++;
            }
        }

        /** From the places wanted of the last map to those of the first, which is laid down. */
        private void prepare() {
            for (int step = last; step > begin; step--) {
                boolean stain = world.errors[PARTS * towns[step]] == STAIN;
                for (int i = 0; i < counts[step]; i++) {
                    int place = places[PLACES * step + i];
                    int from = source(step, place);
                    if (from != NONE) {
                        want(step - 1, from);
                    }
                    if (stain) {
                        wantAround(step - 1, place);
                    }
                }
            }
            System.arraycopy(world.cells, PLACES * towns[begin], maps, PLACES * begin, PLACES);
        }

        private void wantAround(int step, int place) {
            for (int side = 0; side < SIDES; side++) {
                int next = world.beside(place, side);
                if (next != NONE) {
                    want(step, next);
                }
            }
        }

        /** As a world's source, but whatever the marks are: stains and erased marks stay in place. */
        int source(int step, int place) {
            int sort = world.errors[PARTS * towns[step]];
            if (sort == ERASE || sort == STAIN) {
                return place;
            }
            return world.source(towns[step], maps, 0, place, drawn[step]);
        }

        /** Builds all maps behind the first one: the mark of a place in the last one. */
        int build(int place) {
            for (int step = begin + 1; step <= last; step++) {
                int map = PLACES * step;
                int model = map - PLACES;
                for (int i = 0; i < counts[step]; i++) {
                    int next = places[map + i];
                    maps[map + next] = world.markFor(towns[step], maps, model, next, drawn[step]);
                }
            }
            return maps[PLACES * last + place];
        }

        int beginTown() {
            return towns[begin];
        }

        boolean matters(int place) {
            return (bits[begin] >>> place & 1) != 0;
        }

        int beginMark(int place) {
            return maps[PLACES * begin + place];
        }

        /** The place of the first map from which the mark of one of the last came; NONE. */
        int sourceOf(int place) {
            int from = place;
            for (int step = last; step > begin && from != NONE; step--) {
                from = world.source(towns[step], maps, PLACES * (step - 1), from, drawn[step]);
            }
            return from;
        }
    }

    /**
     * Drawings in the first map of a chain, 64 tried at once: each bit of a place's mark is held as a
     * long with a bit for each trial, so that one step over a map builds it for all of them.
     */
    private static final class Trials {
        private static final int MARK_BITS = 3;

        private final Chain chain;
        private long[] marks = new long[PLACES * MARK_BITS];
        private long[] next = new long[PLACES * MARK_BITS];
        private final long[] stained = new long[PLACES];

        Trials(Chain chain) {
            this.chain = chain;
        }

        /** All trials have the first map as it is. */
        void begin() {
            for (int i = 0; i < chain.counts[chain.begin]; i++) {
                int place = chain.places[PLACES * chain.begin + i];
                overlay(marks, place, -1L, chain.beginMark(place));
            }
        }

        void put(int trial, int place, int mark) {
            overlay(marks, place, 1L << trial, mark);
        }

        /** The trials by which a place of the last map has a mark. */
        long having(int place, int mark) {
            for (int step = chain.begin + 1; step <= chain.last; step++) {
                build(step);
                long[] built = next;
                next = marks;
                marks = built;
            }
            return with(place, mark);
        }

        private void build(int step) {
            int error = PARTS * chain.towns[step];
            int sort = chain.world.errors[error];
            int part = chain.world.errors[error + 1];
            if (sort == STAIN) {
                listStained(step - 1, part);
            }
            for (int i = 0; i < chain.counts[step]; i++) {
                int place = chain.places[PLACES * step + i];
                int from = chain.source(step, place);
                if (from == NONE) {
                    overlay(next, place, -1L, part);
                } else {
                    System.arraycopy(marks, MARK_BITS * from, next, MARK_BITS * place, MARK_BITS);
                }
                if (sort == SWAP) {
                    int partner = chain.world.errors[error + 2];
                    overlay(next, place, with(from, part), partner);
                    overlay(next, place, with(from, partner), part);
                } else if (sort == ERASE) {
                    overlay(next, place, with(place, part), 0);
                } else if (sort == STAIN) {
                    overlay(next, place, stainedAt(place), part);
                }
            }
        }

        private void listStained(int step, int mark) {
            for (int i = 0; i < chain.counts[step]; i++) {
                int place = chain.places[PLACES * step + i];
                stained[place] = with(place, mark);
            }
        }

        private long stainedAt(int place) {
            long trials = stained[place];
            for (int side = 0; side < SIDES; side++) {
                int beside = chain.world.beside(place, side);
                if (beside != NONE) {
                    trials |= stained[beside];
                }
            }
            return trials;
        }

        /** The trials in which a place has a mark. */
        private long with(int place, int mark) {
            long trials = -1L;
            for (int bit = 0; bit < MARK_BITS; bit++) {
                long row = marks[MARK_BITS * place + bit];
                trials &= (mark >> bit & 1) != 0 ? row : ~row;
            }
            return trials;
        }

        private static void overlay(long[] map, int place, long trials, int mark) {
            for (int bit = 0; bit < MARK_BITS; bit++) {
                int at = MARK_BITS * place + bit;
                map[at] = (mark >> bit & 1) != 0 ? map[at] | trials : map[at] & ~trials;
            }
        }
    }

    /** STROKES, looked for among the places that matter and aren't drawn so already. */
    private static final class StrokeSearch {
        private static final int AT_ONCE = 64;
        /** More than are needed for three of 36 places, 64 at once. */
        private static final int BATCHES = 200;

        private final Chain chain;
        private final Trials trials;
        private final int[] open = new int[PLACES];
        private int openCount = 0;
        final int[] picked = new int[STROKES_MOST];
        /** Which of the open places are picked, in rising order; and the picks of all trials. */
        private final int[] pick = new int[STROKES_MOST];
        private final int[] tried = new int[AT_ONCE * STROKES_MOST];

        StrokeSearch(Chain chain) {
            this.chain = chain;
            this.trials = new Trials(chain);
        }

        int fewest(World now, int t, int mark, int u, int place, int due, int n) {
            if (chain.markBehind(now, u, place, n) == due) {
                return 0;
            }
            if (chain.beginTown() != t) {
                return NOTHING;
            }
            listOpen(mark);
            for (int count = 1; count <= STROKES_MOST && count <= openCount; count++) {
                if (find(count, mark, place, due)) {
                    return count;
                }
            }
            return NOTHING;
        }

        /** Column by column: so the first pick found is the first of its length. */
        private void listOpen(int mark) {
            openCount = 0;
            for (int column = 0; column < SIDE; column++) {
                for (int row = 0; row < SIDE; row++) {
                    int place = SIDE * row + column;
                    if (chain.matters(place) && chain.beginMark(place) != mark) {
                        open[openCount] = place;
                        openCount++;
                    }
                }
            }
        }

        private boolean find(int count, int mark, int place, int due) {
            for (int i = 0; i < count; i++) {
                pick[i] = i;
            }
            boolean more = true;
            for (int batch = 0; batch < BATCHES && more; batch++) {
                trials.begin();
                for (int trial = 0; trial < AT_ONCE && more; trial++) {
                    tryPick(trial, count, mark);
                    more = goToNextPick(count);
                }
                // trials without a pick have nothing drawn, and that is known not to be enough
                if (takeFirst(trials.having(place, due), count)) {
                    return true;
                }
            }
            return false;
        }

        private void tryPick(int trial, int count, int mark) {
            for (int i = 0; i < count; i++) {
                int place = open[pick[i]];
                trials.put(trial, place, mark);
                tried[STROKES_MOST * trial + i] = place;
            }
        }

        private boolean goToNextPick(int count) {
            for (int i = count - 1; i >= 0; i--) {
                if (pick[i] < openCount - count + i) {
                    pick[i]++;
                    for (int k = i + 1; k < count; k++) {
                        pick[k] = pick[k - 1] + 1;
                    }
                    return true;
                }
            }
            return false;
        }

        private boolean takeFirst(long good, int count) {
            for (int trial = 0; trial < AT_ONCE; trial++) {
                if ((good >>> trial & 1) != 0) {
                    System.arraycopy(tried, STROKES_MOST * trial, picked, 0, count);
                    return true;
                }
            }
            return false;
        }
    }

    /** FITS of the ring that was told; they hang on nothing else, so they are found once. */
    private static final class FitSearch {
        private final Chain chain;
        boolean known = false;
        final int[] rows = new int[ROWS];
        int count = 0;

        FitSearch(Chain chain) {
            this.chain = chain;
        }

        /** The first that is seen and isn't so; NOTHING if all is so. */
        int firstNotSo(Ring told, World from) {
            for (int i = 0; i < told.seenCount; i++) {
                int mark = chain.markBehind(from, told.seenTown[i], told.seenPlace[i], told.seenBehind[i]);
                if (mark != told.seenMark[i]) {
                    return i;
                }
            }
            return NOTHING;
        }

        /** A row is held as one number, the first unknown town's guess its highest digit. */
        void find(Ring told, World trial) {
            if (known) {
                return;
            }
            known = true;
            count = 0;
            int all = weight(told, told.unknownCount());
            trial.become(told.begin);
            for (int row = 0; row < all; row++) {
                setGuesses(told, trial, row);
                if (firstNotSo(told, trial) == NOTHING) {
                    rows[count] = row;
                    count++;
                }
            }
        }

        private static int weight(Ring told, int digits) {
            int weight = 1;
            for (int i = 0; i < digits && i < UNKNOWNS; i++) {
                weight *= told.guessCount;
            }
            return weight;
        }

        private void setGuesses(Ring told, World trial, int row) {
            int unknown = 0;
            for (int town = 0; town < told.begin.towns; town++) {
                if (told.isUnknown(town)) {
                    int guess = guessIn(told, row, unknown);
                    System.arraycopy(told.guesses, PARTS * guess, trial.errors, PARTS * town, PARTS);
                    unknown++;
                }
            }
        }

        int guessIn(Ring told, int row, int unknown) {
            int weight = weight(told, told.unknownCount() - 1 - unknown);
            return weight > 0 && told.guessCount > 0 ? row / weight % told.guessCount : 0;
        }

        int sureGuess(Ring told, int unknown) {
            if (count == 0) {
                return NOTHING;
            }
            int guess = guessIn(told, rows[0], unknown);
            for (int i = 1; i < count; i++) {
                if (guessIn(told, rows[i], unknown) != guess) {
                    return NOTHING;
                }
            }
            return guess;
        }
    }

    /** AREAS and INK of one map. */
    private static final class Ground {
        /** More than the ink for any map. */
        private static final int FAR = 1000;

        final int[] map = new int[PLACES];
        int count = 0;
        int most = 0;
        private final int[] open = new int[PLACES];
        private final boolean[] met = new boolean[PLACES];
        private final int[] ways = new int[PLACES];

        void survey(World world, int mark) {
            count = 0;
            most = 0;
            for (int place = 0; place < PLACES; place++) {
                met[place] = !world.holds(place) || map[place] != mark;
            }
            for (int place = 0; place < PLACES; place++) {
                if (!met[place]) {
                    count++;
                    most = Math.max(most, areaFrom(world, place));
                }
            }
        }

        /** A place is met once at most: so neither the row nor the loop goes beyond PLACES. */
        private int areaFrom(World world, int begin) {
            int length = 1;
            open[0] = begin;
            met[begin] = true;
            for (int i = 0; i < length && i < PLACES; i++) {
                for (int side = 0; side < SIDES; side++) {
                    int next = world.beside(open[i], side);
                    if (next != NONE && !met[next]) {
                        met[next] = true;
                        open[length] = next;
                        length++;
                    }
                }
            }
            return length;
        }

        /** Ways from the edge are made cheaper until none is: a way has PLACES steps at most. */
        int leastInk(World world, int place, int mark) {
            Arrays.fill(ways, FAR);
            boolean cheaper = true;
            for (int i = 0; i <= PLACES && cheaper; i++) {
                cheaper = false;
                for (int next = 0; next < PLACES; next++) {
                    int way = world.holds(next) ? wayBy(world, next, mark) : FAR;
                    if (way < ways[next]) {
                        ways[next] = way;
                        cheaper = true;
                    }
                }
            }
            return ways[place];
        }

        private int wayBy(World world, int place, int mark) {
            int way = world.isEdge(place) ? 0 : FAR;
            for (int side = 0; side < SIDES; side++) {
                int next = world.beside(place, side);
                if (next != NONE) {
                    way = Math.min(way, ways[next]);
                }
            }
            return map[place] == mark ? way : way + 1;
        }
    }

    /** What UNDO and KEEPS go back to. */
    private static final class Past {
        private final World[] olds = new World[OLDS];
        int oldCount = 0;
        final World[] keeps = new World[KEEPS];
        int keepCount = 0;

        Past() {
            for (int i = 0; i < OLDS; i++) {
                olds[i] = new World();
            }
            for (int i = 0; i < KEEPS; i++) {
                keeps[i] = new World();
            }
        }

        void forgetAll() {
            oldCount = 0;
            keepCount = 0;
        }

        void remember(World world) {
            if (oldCount >= OLDS) {
                forgetOldest();
            }
            olds[oldCount].become(world);
            oldCount++;
        }

        private void forgetOldest() {
            World oldest = olds[0];
            for (int i = 1; i < OLDS; i++) {
                olds[i - 1] = olds[i];
            }
            olds[OLDS - 1] = oldest;
            oldCount = OLDS - 1;
        }

        void recall(World world) {
            if (oldCount > 0) {
                oldCount--;
                world.become(olds[oldCount]);
            }
        }

        int hold(World world) {
            if (keepCount >= KEEPS) {
                return NONE;
            }
            keeps[keepCount].become(world);
            keepCount++;
            return keepCount - 1;
        }
    }
}
