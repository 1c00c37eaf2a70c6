import java.util.Arrays;

/**
 * Cubes on a desk that tell the day. The words in capitals in the comments are
 * those of ../shared/DOC.md, which says what every public method promises.
 */
public final class DayCubes {
    public static final int BAD = -1, STATE = -2, FULL = -3, NONE = -9;
    public static final int NO = -1000000;

    private static final int MOST_CUBES = 4;
    private static final int SIDES = 6;
    private static final int FIGURES = 10;
    private static final int MOST_DAYS = 6;
    private static final int MOST_BYTES = 100;
    private static final int MOST_NUMBER = 9999;
    private static final int MOST_WORK = 9999;
    private static final int MOST_UNDONE = 10;
    private static final int MOST_SEEN = 6;
    private static final int MOST_THROUGH = 3;
    private static final int IMAGES = 2;
    private static final int NO_BLANK = -1;

    private static final int[] POWERS_OF_TEN = {1, 10, 100, 1000, 10000};
    private static final int[] POWERS_OF_SIX = {1, 6, 36, 216, 1296};

    private static final int CUBE = 0, OAK = 1, BONE = 2, IVORY = 3, HORN = 4, CHALK = 5;
    private static final int[] KIND_ABOVE = {0, 0, 0, 1, 2, 0};
    private static final int[] KIND_TRACE = {1, 10, 100, 1000, 10000, 100000};

    private final Reader reader = new Reader();
    private Told told = new Told();
    private Told draft = new Told();
    private final Stand now = new Stand();
    private final Stand[] images = new Stand[IMAGES];
    private final boolean[] kept = new boolean[IMAGES];
    private final Seen seen = new Seen();
    private final Tellers tellers = new Tellers();
    private final Walk walk = new Walk();
    private final Fall fall = new Fall();
    private long trace;

    public DayCubes() {
        for (int i = 0; i < IMAGES; i++) {
            images[i] = new Stand();
        }
    }

    // ---- the desk

    public int type(int c) {
        if (c < 0 || c > 255) {
            return BAD;
        }
        if (reader.length >= MOST_BYTES) {
            return FULL;
        }
        reader.append(c);
        return reader.length;
    }

    public int clear() {
        int had = reader.length;
        reader.length = 0;
        return had;
    }

    public int desk() {
        int fault = reader.read(draft);
        if (fault != Reader.NO_FAULT) {
            return -10 - fault;
        }
        Told old = told;
        told = draft;
        draft = old;
        reader.length = 0;
        now.begin(told);
        seen.size = 0;
        forgetImages();
        return told.items;
    }

    public int side(int c, int s) {
        return isCube(c) && isSide(s) ? now.figures[c * SIDES + s] : BAD;
    }

    public int cube(int c, int what) {
        if (!isCube(c)) {
            return BAD;
        }
        switch (what) {
            case 0: return now.placeOf(c);
            case 1: return now.front[c];
            case 2: return now.figuresOf(c);
            case 3: return sidesNeeded(c);
            default: return BAD;
        }
    }

    public int place(int p) {
        return isPlace(p) ? now.cubeAt[p] : BAD;
    }

    public int day(int d) {
        return d >= 0 && d < told.dayCount ? told.days[d] : BAD;
    }

    // ---- what is done

    public int turn(int c, int s) {
        if (!isCube(c) || !isSide(s)) {
            return BAD;
        }
        if (now.front[c] == s) {
            return STATE;
        }
        now.turnCube(c, s);
        return now.work;
    }

    public int changes(int p, int q) {
        if (!isPlace(p) || !isPlace(q) || p == q) {
            return BAD;
        }
        now.changePlaces(p, q);
        return now.work;
    }

    public int pastes(int c, int s, int figure) {
        if (!isCube(c) || !isSide(s) || !isFigure(figure)) {
            return BAD;
        }
        int before = now.figures[c * SIDES + s];
        if (before == figure) {
            return STATE;
        }
        now.pasteFigure(c * SIDES + s, figure);
        return before;
    }

    public int undo() {
        if (now.deedCount == 0) {
            return STATE;
        }
        now.takeBack();
        return now.deedCount;
    }

    public int now(int what) {
        switch (what) {
            case 0: return now.work;
            case 1: return numberInFront();
            case 2: return tellersBut(NO_BLANK).many();
            case 3: return tellersBut(NO_BLANK).leastUntold();
            case 4: return tellersBut(NO_BLANK).daysDone(told);
            default: return BAD;
        }
    }

    // ---- numbers

    public int number(int n, int what) {
        if (!isNumber(n)) {
            return BAD;
        }
        switch (what) {
            case 0: return isTold(n) ? 1 : 0;
            case 1: return tellersBut(NO_BLANK).canTell(n) ? 1 : 0;
            case 2: return leastWork(n, 1);
            case 3: return tellersBut(NO_BLANK).fewestPastes(n);
            default: return BAD;
        }
    }

    public int through(int from, int n) {
        if (!isNumber(from) || n < 1 || n > MOST_THROUGH) {
            return BAD;
        }
        return isNumber(from + n - 1) ? leastWork(from, n) : NONE;
    }

    public int odds(int n, int what) {
        if (!isNumber(n) || what < 0 || what > 1) {
            return BAD;
        }
        fall.reckon(told, now, n);
        return what == 0 ? fall.upper : fall.lower;
    }

    // ---- which it was

    public int sees(int figure, int there) {
        if (!isFigure(figure) || there < 0 || there > 1) {
            return BAD;
        }
        if (seen.size >= MOST_SEEN) {
            return FULL;
        }
        seen.append(figure, there);
        return seen.size;
    }

    public int forget() {
        int had = seen.size;
        seen.size = 0;
        return had;
    }

    public int which() {
        return seen.cubesThatMayBe(told.cubes, now);
    }

    public int look() {
        return seen.bestToLookFor(told.cubes, now);
    }

    // ---- kinds, images

    public int mark(int kind, int c) {
        if (kind < CUBE || kind > CHALK || !isCube(c)) {
            return NO;
        }
        return markAs(kind, c);
    }

    public int keep(int image) {
        if (!isImage(image)) {
            return BAD;
        }
        images[image].copy(now);
        kept[image] = true;
        return now.work;
    }

    public int back(int image) {
        if (!isImage(image)) {
            return BAD;
        }
        if (!kept[image]) {
            return STATE;
        }
        now.copy(images[image]);
        return now.work;
    }

    public int count(int what) {
        switch (what) {
            case 0: return told.cubes;
            case 1: return told.dayCount;
            case 2: return told.both ? 1 : 0;
            case 3: return seen.size;
            case 4: return now.deedCount;
            case 5: return reader.length;
            default: return BAD;
        }
    }

    public long trace() {
        return trace;
    }

    // ---- what the calls share

    private boolean isCube(int c) {
        return c >= 0 && c < told.cubes;
    }

    private boolean isPlace(int p) {
        return p >= 0 && p < told.cubes;
    }

    private boolean isNumber(int n) {
        return n >= 0 && n < told.howManyNumbers();
    }

    private static boolean isSide(int s) {
        return s >= 0 && s < SIDES;
    }

    private static boolean isFigure(int figure) {
        return figure >= 0 && figure < FIGURES;
    }

    private static boolean isImage(int image) {
        return image >= 0 && image < IMAGES;
    }

    private void forgetImages() {
        for (int i = 0; i < IMAGES; i++) {
            kept[i] = false;
        }
    }

    private Tellers tellersBut(int blank) {
        tellers.take(told, now, blank);
        return tellers;
    }

    private int numberInFront() {
        int number = 0;
        for (int p = 0; p < told.cubes; p++) {
            number = number * 10 + now.figureInFront(now.cubeAt[p]);
        }
        return number;
    }

    private boolean isTold(int n) {
        int rest = n;
        for (int p = told.cubes - 1; p >= 0; p--) {
            if (!told.fits(now.figureInFront(now.cubeAt[p]), rest % 10)) {
                return false;
            }
            rest /= 10;
        }
        return true;
    }

    private int leastWork(int from, int n) {
        tellersBut(NO_BLANK);
        for (int i = 0; i < n; i++) {
            // a walk that can't be would be looked for longest of all
            if (!tellers.canTell(from + i)) {
                return NONE;
            }
        }
        return walk.leastThrough(told, now, from, n);
    }

    private int sidesNeeded(int c) {
        int done = tellersBut(NO_BLANK).daysDone(told);
        int needed = 0;
        for (int s = 0; s < SIDES; s++) {
            if (tellersBut(c * SIDES + s).daysDone(told) != done) {
                needed |= 1 << s;
            }
        }
        return needed;
    }

    /** The kinds' chain ends, because the one above has always a lower number. */
    private int markAs(int kind, int c) {
        trace += KIND_TRACE[kind];
        if (kind == CUBE) {
            return now.figureInFront(c);
        }
        int up = markAs(KIND_ABOVE[kind], c);
        switch (kind) {
            case OAK: return up + now.placeOf(c);
            case BONE: return up - Integer.bitCount(now.figuresOf(c));
            case IVORY: return up * 2;
            case HORN: return up + c;
            default: return up + now.work;
        }
    }

    /** What a text tells of CUBES, DAYS and BOTH. */
    private static final class Told {
        final int[] figures = new int[MOST_CUBES * SIDES];
        final int[] days = new int[MOST_DAYS];
        int cubes;
        int dayCount;
        int items;
        boolean both;

        void empty() {
            cubes = 0;
            dayCount = 0;
            items = 0;
            both = false;
        }

        int howManyNumbers() {
            return POWERS_OF_TEN[cubes];
        }

        /** One FIGURE for all that fit one another, so that FITS is being alike. */
        int upright(int figure) {
            return both && figure == 9 ? 6 : figure;
        }

        boolean fits(int figure, int other) {
            return upright(figure) == upright(other);
        }
    }

    /** THE TEXT, and how it is read: TOKEN by TOKEN, ITEM by ITEM. */
    private static final class Reader {
        static final int NO_FAULT = -1;
        private static final int END = 0, LETTERS = 1, NUMBER = 2, STOP = 3, WRONG = 4;
        private static final int SEVERAL_LETTERS = 0;

        private final int[] bytes = new int[MOST_BYTES];
        int length;
        private int at;
        private int token;
        private int start;
        private int value;

        void append(int c) {
            bytes[length] = c;
            length++;
        }

        /** Reads all into a draft: NO_FAULT, or the FAULT. */
        int read(Told draft) {
            draft.empty();
            at = 0;
            // an ITEM has a byte at least, so there are no more of them than bytes
            for (int i = 0; i <= length; i++) {
                nextToken();
                if (token == END) {
                    return NO_FAULT;
                }
                if (!readItem(draft)) {
                    return start;
                }
                draft.items++;
            }
            return NO_FAULT;
        }

        /** If it answers false, the present TOKEN is the one at FAULT. */
        private boolean readItem(Told draft) {
            if (token != LETTERS) {
                return false;
            }
            boolean fine;
            switch (value) {
                case 'b': fine = readBoth(draft); break;
                case 'c': fine = readCube(draft); break;
                case 'd': fine = readDay(draft); break;
                default: fine = false; break;
            }
            if (!fine) {
                return false;
            }
            nextToken();
            return token == STOP;
        }

        private boolean readBoth(Told draft) {
            if (draft.both) {
                return false;
            }
            draft.both = true;
            return true;
        }

        private boolean readCube(Told draft) {
            if (draft.cubes >= MOST_CUBES) {
                return false;
            }
            for (int s = 0; s < SIDES; s++) {
                nextToken();
                if (!isNumberBelow(FIGURES)) {
                    return false;
                }
                draft.figures[draft.cubes * SIDES + s] = value;
            }
            draft.cubes++;
            return true;
        }

        private boolean readDay(Told draft) {
            if (draft.dayCount >= MOST_DAYS) {
                return false;
            }
            nextToken();
            if (!isNumberBelow(draft.howManyNumbers())) {
                return false;
            }
            draft.days[draft.dayCount] = value;
            draft.dayCount++;
            return true;
        }

        private boolean isNumberBelow(int bound) {
            return token == NUMBER && value < bound;
        }

        private void nextToken() {
            while (at < length && bytes[at] == ' ') {
                at++;
            }
            start = at;
            if (at >= length) {
                token = END;
            } else if (isLetter(bytes[at])) {
                takeLetters();
            } else if (isDigit(bytes[at])) {
                takeDigits();
            } else {
                token = bytes[at] == ';' ? STOP : WRONG;
                at++;
            }
        }

        private void takeLetters() {
            token = LETTERS;
            value = bytes[at];
            at++;
            while (at < length && isLetter(bytes[at])) {
                value = SEVERAL_LETTERS;
                at++;
            }
        }

        private void takeDigits() {
            boolean zeroAhead = bytes[at] == '0';
            value = 0;
            while (at < length && isDigit(bytes[at])) {
                // kept just above the bound, so that it can not wrap around
                value = Math.min(value * 10 + bytes[at] - '0', MOST_NUMBER + 1);
                at++;
            }
            boolean wrong = value > MOST_NUMBER || zeroAhead && at - start > 1;
            token = wrong ? WRONG : NUMBER;
        }

        private static boolean isLetter(int c) {
            return c >= 'a' && c <= 'z';
        }

        private static boolean isDigit(int c) {
            return c >= '0' && c <= '9';
        }
    }

    /** What is NOW, and what an IMAGE keeps of it. */
    private static final class Stand {
        private static final int TURNED = 0, CHANGED = 1, PASTED = 2;
        /** A deed is what was done, two numbers that tell how it was, WORK till then. */
        private static final int DEED = 4;

        final int[] figures = new int[MOST_CUBES * SIDES];
        final int[] cubeAt = new int[MOST_CUBES];
        final int[] front = new int[MOST_CUBES];
        final int[] deeds = new int[MOST_UNDONE * DEED];
        int deedCount;
        int work;

        void begin(Told told) {
            System.arraycopy(told.figures, 0, figures, 0, figures.length);
            for (int k = 0; k < MOST_CUBES; k++) {
                cubeAt[k] = k;
                front[k] = 0;
            }
            deedCount = 0;
            work = 0;
        }

        void copy(Stand other) {
            System.arraycopy(other.figures, 0, figures, 0, figures.length);
            System.arraycopy(other.cubeAt, 0, cubeAt, 0, cubeAt.length);
            System.arraycopy(other.front, 0, front, 0, front.length);
            System.arraycopy(other.deeds, 0, deeds, 0, deeds.length);
            deedCount = other.deedCount;
            work = other.work;
        }

        int placeOf(int c) {
            for (int p = 0; p < MOST_CUBES; p++) {
                if (cubeAt[p] == c) {
                    return p;
                }
            }
            return BAD;
        }

        int figureInFront(int c) {
            return figures[c * SIDES + front[c]];
        }

        int figuresOf(int c) {
            int bits = 0;
            for (int s = 0; s < SIDES; s++) {
                bits |= 1 << figures[c * SIDES + s];
            }
            return bits;
        }

        void turnCube(int c, int s) {
            remember(TURNED, c, front[c]);
            addWork(turnWork(front[c], s));
            front[c] = s;
        }

        void changePlaces(int p, int q) {
            remember(CHANGED, p, q);
            addWork(1);
            exchange(p, q);
        }

        void pasteFigure(int side, int figure) {
            remember(PASTED, side, figures[side]);
            figures[side] = figure;
        }

        void takeBack() {
            if (deedCount <= 0) {
                return;
            }
            deedCount--;
            int at = deedCount * DEED;
            int first = deeds[at + 1];
            int second = deeds[at + 2];
            switch (deeds[at]) {
                case TURNED: front[first] = second; break;
                case CHANGED: exchange(first, second); break;
                default: figures[first] = second; break;
            }
            work = deeds[at + 3];
        }

        static int turnWork(int from, int to) {
            if (from == to) {
                return 0;
            }
            return from + to == SIDES - 1 ? 2 : 1;
        }

        private void remember(int deed, int first, int second) {
            if (deedCount >= MOST_UNDONE) {
                System.arraycopy(deeds, DEED, deeds, 0, (MOST_UNDONE - 1) * DEED);
                deedCount = MOST_UNDONE - 1;
            }
            int at = deedCount * DEED;
            deeds[at] = deed;
            deeds[at + 1] = first;
            deeds[at + 2] = second;
            deeds[at + 3] = work;
            deedCount++;
        }

        private void addWork(int more) {
            work = Math.min(work + more, MOST_WORK);
        }

        private void exchange(int p, int q) {
            int c = cubeAt[p];
            cubeAt[p] = cubeAt[q];
            cubeAt[q] = c;
        }
    }

    /**
     * Which CUBES can tell which FIGURE, and what numbers come of it. Many sets of
     * CUBES are held at once in one int: bit b stands for the set whose bits b has
     * (bit 5 for CUBES 0 and 2), bit 0 for the empty one.
     */
    private static final class Tellers {
        private static final int JUST_THE_EMPTY_SET = 1;
        private static final int HOW_MANY_SETS = 16;
        /** For each CUBE all sets that are without it. */
        private static final int[] SETS_WITHOUT = {0x5555, 0x3333, 0x0F0F, 0x00FF};

        private final int[] cubesWith = new int[FIGURES];
        private int cubes;

        /** Looks at all SIDES but a blank one (its index, or NO_BLANK). */
        void take(Told told, Stand now, int blank) {
            cubes = told.cubes;
            Arrays.fill(cubesWith, 0);
            for (int i = 0; i < cubes * SIDES; i++) {
                if (i != blank) {
                    cubesWith[now.figures[i]] |= 1 << i / SIDES;
                }
            }
            if (told.both) {
                cubesWith[6] |= cubesWith[9];
                cubesWith[9] = cubesWith[6];
            }
        }

        boolean canTell(int n) {
            int sets = JUST_THE_EMPTY_SET;
            int rest = n;
            for (int p = 0; p < cubes; p++) {
                sets = withOneMore(sets, rest % 10);
                rest /= 10;
            }
            return sets != 0;
        }

        int daysDone(Told told) {
            int done = 0;
            for (int d = 0; d < told.dayCount; d++) {
                if (canTell(told.days[d])) {
                    done |= 1 << d;
                }
            }
            return done;
        }

        int leastUntold() {
            for (int n = 0; n < POWERS_OF_TEN[cubes]; n++) {
                if (!canTell(n)) {
                    return n;
                }
            }
            return NONE;
        }

        /** A FIGURE that no CUBE is left for costs one SIDE: as few of these as can be. */
        int fewestPastes(int n) {
            int sets = JUST_THE_EMPTY_SET;
            int rest = n;
            for (int p = 0; p < cubes; p++) {
                sets |= withOneMore(sets, rest % 10);
                rest /= 10;
            }
            int most = 0;
            for (int set = 0; set < HOW_MANY_SETS; set++) {
                if ((sets >> set & 1) == 1) {
                    most = Math.max(most, Integer.bitCount(set));
                }
            }
            return cubes - most;
        }

        int many() {
            return manyFrom(0, JUST_THE_EMPTY_SET, 0, 0, 1);
        }

        /**
         * Whether a number can be TOLD does not hang on the order of its figures, so
         * only those that never fall are looked at, each for all its orders.
         *
         * @param length how many figures are chosen
         * @param sets   the sets of CUBES that tell them
         * @param last   the one chosen last
         * @param alike  how many of them are the last one
         * @param orders in how many orders they can stand
         */
        private int manyFrom(int length, int sets, int last, int alike, int orders) {
            if (sets == 0) {
                return 0;
            }
            if (length >= cubes) {
                return orders;
            }
            int many = 0;
            for (int figure = last; figure < FIGURES; figure++) {
                int run = figure == last ? alike + 1 : 1;
                int more = run > 0 ? orders * (length + 1) / run : 0;
                many += manyFrom(length + 1, withOneMore(sets, figure), figure, run, more);
            }
            return many;
        }

        /** What the sets become if one more CUBE of each tells a FIGURE. */
        private int withOneMore(int sets, int figure) {
            int more = 0;
            for (int c = 0; c < cubes; c++) {
                if ((cubesWith[figure] >> c & 1) == 1) {
                    more |= (sets & SETS_WITHOUT[c]) << (1 << c);
                }
            }
            return more;
        }
    }

    /**
     * The least WORK through some numbers. A CUBE's path is the PLACES that it has at
     * these numbers, one behind the other; the WORK of its turns hangs on its path alone,
     * so that is reckoned first, then the paths of all CUBES are chosen together.
     */
    private static final class Walk {
        /** Above the WORK of any walk. */
        private static final int FAR = 1000;
        /** Paths of 0 .. 3 PLACES: 1, 4, 16 and 64 of them. */
        private static final int PATHS = 85;
        private static final int NO_PATH = 0;

        // rows for the numbers 1 .. 3 of a walk; what is NOW is number 0
        private final int[] wanted = new int[(MOST_THROUGH + 1) * MOST_CUBES];
        private final int[] cubeAt = new int[(MOST_THROUGH + 1) * MOST_CUBES];
        private final int[] placeOf = new int[(MOST_THROUGH + 1) * MOST_CUBES];
        private final int[] path = new int[(MOST_THROUGH + 1) * MOST_CUBES];
        /** The least WORK till a SIDE is in FRONT at a number of a path. */
        private final int[] till = new int[(MOST_THROUGH + 1) * SIDES];
        private final int[] turnsOf = new int[MOST_CUBES * PATHS];
        private Told told;
        private Stand now;
        private int cubes;
        private int last;
        private int best;

        int leastThrough(Told desk, Stand stand, int from, int numbers) {
            told = desk;
            now = stand;
            cubes = desk.cubes;
            last = numbers;
            for (int k = 1; k <= last; k++) {
                takeWanted(k, from + k - 1);
            }
            for (int c = 0; c < cubes; c++) {
                reckonTurns(c);
                cubeAt[c] = now.cubeAt[c];
                path[c] = NO_PATH;
            }
            best = FAR;
            choose(1, 0, 0, 0);
            return best == FAR ? NONE : best;
        }

        private void takeWanted(int k, int number) {
            int rest = number;
            for (int p = cubes - 1; p >= 0; p--) {
                wanted[k * MOST_CUBES + p] = rest % 10;
                rest /= 10;
            }
        }

        private void reckonTurns(int c) {
            for (int s = 0; s < SIDES; s++) {
                till[s] = s == now.front[c] ? 0 : FAR;
            }
            turnsOf[c * PATHS + NO_PATH] = 0;
            reckonPathsFrom(c, NO_PATH, 1);
        }

        /** A path that a CUBE can not go is FAR, and what goes on from it is left out. */
        private void reckonPathsFrom(int c, int before, int k) {
            if (k > last) {
                return;
            }
            for (int p = 0; p < cubes; p++) {
                int longer = longerPath(before, p);
                int turns = reckonSides(c, k, wanted[k * MOST_CUBES + p]);
                turnsOf[c * PATHS + longer] = turns;
                if (turns < FAR) {
                    reckonPathsFrom(c, longer, k + 1);
                }
            }
        }

        private int reckonSides(int c, int k, int figure) {
            int least = FAR;
            for (int s = 0; s < SIDES; s++) {
                int work = FAR;
                if (told.fits(now.figures[c * SIDES + s], figure)) {
                    for (int t = 0; t < SIDES; t++) {
                        int way = till[(k - 1) * SIDES + t] + Stand.turnWork(t, s);
                        work = Math.min(work, way);
                    }
                }
                till[k * SIDES + s] = work;
                least = Math.min(least, work);
            }
            return least;
        }

        private static int longerPath(int before, int p) {
            return before * MOST_CUBES + p + 1;
        }

        /** Chooses CUBES for number k from PLACE p on, then for the numbers behind it. */
        private void choose(int k, int p, int used, int spent) {
            if (spent >= best) {
                return;
            }
            if (p >= cubes) {
                goOn(k, spent + changesTo(k));
                return;
            }
            for (int c = 0; c < cubes; c++) {
                if ((used >> c & 1) == 0) {
                    int before = path[(k - 1) * MOST_CUBES + c];
                    int longer = longerPath(before, p);
                    int more = turnsOf[c * PATHS + longer] - turnsOf[c * PATHS + before];
                    cubeAt[k * MOST_CUBES + p] = c;
                    placeOf[k * MOST_CUBES + c] = p;
                    path[k * MOST_CUBES + c] = longer;
                    choose(k, p + 1, used | 1 << c, spent + more);
                }
            }
        }

        private void goOn(int k, int spent) {
            if (k < last) {
                choose(k + 1, 0, 0, spent);
            } else {
                best = Math.min(best, spent);
            }
        }

        /** A ring of PLACES that hand on their CUBES takes one CHANGE less than it has PLACES. */
        private int changesTo(int k) {
            int looked = 0;
            int rings = 0;
            for (int p = 0; p < cubes; p++) {
                if ((looked >> p & 1) == 0) {
                    rings++;
                }
                int q = p;
                for (int i = 0; i < cubes && (looked >> q & 1) == 0; i++) {
                    looked |= 1 << q;
                    q = placeOf[k * MOST_CUBES + cubeAt[(k - 1) * MOST_CUBES + q]];
                }
            }
            return cubes - rings;
        }
    }

    /** The ODDS of a number. */
    private static final class Fall {
        private final int[] missing = new int[FIGURES];
        private Told told;
        private Stand now;
        int upper;
        int lower;

        void reckon(Told desk, Stand stand, int n) {
            told = desk;
            now = stand;
            Arrays.fill(missing, 0);
            int rest = n;
            for (int p = 0; p < told.cubes; p++) {
                missing[told.upright(rest % 10)]++;
                rest /= 10;
            }
            upper = fallsFrom(0);
            lower = POWERS_OF_SIX[told.cubes];
            reduce();
        }

        /** In how many ways this CUBE and those behind it fall as what is missing. */
        private int fallsFrom(int c) {
            if (c >= told.cubes) {
                return 1;
            }
            int falls = 0;
            for (int s = 0; s < SIDES; s++) {
                int figure = told.upright(now.figures[c * SIDES + s]);
                if (missing[figure] > 0) {
                    missing[figure]--;
                    falls += fallsFrom(c + 1);
                    missing[figure]++;
                }
            }
            return falls;
        }

        /** The lower number has a 2 and a 3 for each CUBE, and no other primes. */
        private void reduce() {
            for (int c = 0; c < told.cubes; c++) {
                reduceBy(2);
                reduceBy(3);
            }
        }

        private void reduceBy(int prime) {
            if (prime > 0 && upper % prime == 0 && lower % prime == 0) {
                upper /= prime;
                lower /= prime;
            }
        }
    }

    /** What was SEEN of an unknown CUBE. */
    private static final class Seen {
        private final int[] figure = new int[MOST_SEEN];
        private final int[] there = new int[MOST_SEEN];
        int size;

        void append(int f, int isThere) {
            figure[size] = f;
            there[size] = isThere;
            size++;
        }

        int cubesThatMayBe(int cubes, Stand now) {
            int bits = 0;
            for (int c = 0; c < cubes; c++) {
                if (mayBe(now.figuresOf(c))) {
                    bits |= 1 << c;
                }
            }
            return bits;
        }

        private boolean mayBe(int figures) {
            for (int i = 0; i < size; i++) {
                if ((figures >> figure[i] & 1) != there[i]) {
                    return false;
                }
            }
            return true;
        }

        int bestToLookFor(int cubes, Stand now) {
            int left = cubesThatMayBe(cubes, now);
            int all = Integer.bitCount(left);
            int best = NONE;
            int least = all;
            for (int f = 0; f < FIGURES; f++) {
                int have = howManyHave(f, left, cubes, now);
                int greater = Math.max(have, all - have);
                // a FIGURE that parts nothing leaves all of them, so it is never less
                if (greater < least) {
                    least = greater;
                    best = f;
                }
            }
            return best;
        }

        private static int howManyHave(int f, int left, int cubes, Stand now) {
            int have = 0;
            for (int c = 0; c < cubes; c++) {
                if ((left >> c & 1) == 1) {
                    have += now.figuresOf(c) >> f & 1;
                }
            }
            return have;
        }
    }
}
