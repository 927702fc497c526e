/**
 * How far can she have got: a garden of 6 by 6 squares, a tortoise in it, and those who look for
 * her. What each call promises stands in DOC.md. A set of squares is a long, a bit a square.
 */
public final class HowFarShesGot {
    private static final int SIDE = 6;
    private static final int SQUARES = 36;
    private static final long EVERYWHERE = (1L << SQUARES) - 1;
    private static final long LEFT_COLUMN = 0x41041041L;
    private static final long RIGHT_COLUMN = LEFT_COLUMN << (SIDE - 1);

    private static final int UP = 0;
    private static final int LEFT = 1;
    private static final int DOWN = 2;
    private static final int RIGHT = 3;
    private static final int DIRECTIONS = 4;

    private static final int LAWN = 0;
    private static final int HEDGE = 1;
    private static final int GAP = 2;
    private static final int SUN = 3;
    private static final int BED = 4;
    private static final int ROAD = 5;
    private static final int KINDS = 6;
    private static final int BED_STEPS = 2;

    private static final int FIRST = 0;
    private static final int NEAR = 1;
    private static final int MOST = 2;
    private static final int EDGE = 3;
    private static final int AHEAD = 4;
    private static final int SEEKER_KINDS = 5;

    private static final int NOBODY = -1;
    private static final int OTHER = -2;
    private static final int STATE = -3;
    private static final int BELOW = -4;
    private static final int ROOM = -6;
    private static final int NONE = -9;
    private static final long REFUSED_LONG = 4000000000000000000L;

    private static final int LAST_LETTER = 255;
    private static final int LAST_MINUTE = 999;
    private static final int LOOKS_TOLD = 60;
    private static final int LOOKS_TRIED = 200;
    private static final int LAST_FACTOR = 9;
    private static final int LAST_NUMBER = 99;
    private static final int ROW_NUMBERS = 12;
    private static final int WAY_STEPS = 20;
    private static final int TURNING_STEPS = 99;
    private static final int WALKS = 20;
    private static final int WALK_STEPS = 30;
    private static final int SHUT_GAPS = 10;
    private static final int NEVER = 1000000;
    private static final int DIVISIONS = 1000;

    private final Garden garden = new Garden();
    private final Garden draft = new Garden();
    private final Garden image = new Garden();
    private final Telling telling = new Telling();
    private final Numbers row = new Numbers(ROW_NUMBERS);
    private final Wave wave = new Wave();
    private final Hunt hunt = new Hunt();
    private final Chances chances = new Chances();
    private final Lot lot = new Lot();
    private final int[] refusals = new int[1 - ROOM];
    private boolean imageTaken;

    public HowFarShesGot() {
    }

    public int letter(int c) {
        if (c < 0) {
            return refused(BELOW);
        }
        if (c > LAST_LETTER || telling.letters.isFull()) {
            return refused(ROOM);
        }
        return telling.letters.add(c);
    }

    public int garden() {
        draft.become(garden);
        int answer = telling.tellTo(draft);
        telling.letters.clear();
        if (answer > 0) {
            garden.become(draft);
        }
        return answer;
    }

    public int square(int square, int what) {
        if (!isSquare(square)) {
            return refused(NOBODY);
        }
        switch (what) {
            case 0: return garden.kindAt(square);
            case 1: return yesOrNo(has(garden.open(), square));
            case 2: return garden.stepsOff(square);
            default: return refused(OTHER);
        }
    }

    public int turnTo(int square, int kind) {
        if (!isSquare(square)) {
            return refused(NOBODY);
        }
        if (kind < 0 || kind >= KINDS) {
            return refused(OTHER);
        }
        int was = garden.kindAt(square);
        return garden.lay(kind, square, square) ? was : refused(STATE);
    }

    public int set(int what, int v) {
        switch (what) {
            case 0: return setHome(v);
            case 1: return setPace(v);
            case 2: return setWarm(v);
            default: return refused(OTHER);
        }
    }

    public int seeker(int seeker, int what) {
        if (!garden.hasSeeker(seeker)) {
            return refused(NOBODY);
        }
        switch (what) {
            case 0: return garden.kindOfSeeker(seeker);
            case 1: return garden.squareOfSeeker(seeker);
            default: return refused(OTHER);
        }
    }

    public int stand(int seeker, int square) {
        if (!garden.hasSeeker(seeker) || !isSquare(square)) {
            return refused(NOBODY);
        }
        int stood = garden.squareOfSeeker(seeker);
        garden.placeSeeker(seeker, square);
        return stood;
    }

    public int steps(int square) {
        if (!isSquare(square)) {
            return refused(NOBODY);
        }
        wave.spread(garden, garden.home, 0);
        return wave.stepsTo(bit(square));
    }

    public int mayBe(int t, int square) {
        if (t < 0 || square < -1) {
            return refused(BELOW);
        }
        if (t > LAST_MINUTE) {
            return refused(ROOM);
        }
        if (square >= SQUARES) {
            return refused(NOBODY);
        }
        long reached = reachedBy(t);
        return square < 0 ? Long.bitCount(reached) : yesOrNo(has(reached, square));
    }

    public int out(int what) {
        if (what != 0 && what != 1) {
            return refused(OTHER);
        }
        wave.spread(garden, garden.home, 0);
        int steps = wave.stepsTo(garden.squaresOf(ROAD));
        if (steps < 0) {
            return NONE;
        }
        return what == 0 ? steps * garden.pace : least(wave.layer(steps) & garden.squaresOf(ROAD));
    }

    public int shut() {
        long gaps = garden.squaresOf(GAP);
        int choices = 1 << Math.min(SHUT_GAPS, Long.bitCount(gaps));
        int best = NONE;
        for (int bits = 0; bits < choices; bits++) {
            boolean fewer = best < 0 || Integer.bitCount(bits) < Integer.bitCount(best);
            if (fewer && !getsOut(gapsOfBits(gaps, bits))) {
                best = bits;
            }
        }
        return best;
    }

    public int firstGap() {
        long gaps = garden.squaresOf(GAP);
        int best = NONE;
        int latest = -1;
        for (int square = 0; square < SQUARES; square++) {
            if (!has(gaps, square)) {
                continue;
            }
            wave.spread(garden, garden.home, bit(square));
            int steps = wave.stepsTo(garden.squaresOf(ROAD));
            int late = steps < 0 ? NEVER : steps;
            if (late > latest) {
                latest = late;
                best = square;
            }
        }
        return best;
    }

    public int search(int seeker, int t) {
        int wrong = wrongSearch(seeker, t, 0);
        if (wrong < 0) {
            return refused(wrong);
        }
        return looksTillEmpty(seeker, garden.kindOfSeeker(seeker), t);
    }

    public int left(int seeker, int t, int n) {
        int wrong = wrongSearch(seeker, t, n);
        if (wrong < 0) {
            return refused(wrong);
        }
        lookOften(seeker, t, n);
        return Long.bitCount(hunt.set);
    }

    public int looksAt(int seeker, int t, int i) {
        int wrong = wrongSearch(seeker, t, i);
        if (wrong < 0) {
            return refused(wrong);
        }
        lookOften(seeker, t, i);
        return hunt.choice(garden, seeker, garden.kindOfSeeker(seeker));
    }

    public int bestSeeker(int seeker, int t) {
        int wrong = wrongSearch(seeker, t, 0);
        if (wrong < 0) {
            return refused(wrong);
        }
        int best = NONE;
        int soonest = LOOKS_TRIED + 1;
        for (int kind = 0; kind < SEEKER_KINDS; kind++) {
            int looks = looksTillEmpty(seeker, kind, t);
            if (looks >= 0 && looks < soonest) {
                soonest = looks;
                best = kind;
            }
        }
        return best;
    }

    public int together(int t) {
        if (garden.seekers == 0) {
            return refused(STATE);
        }
        int wrong = wrongMinute(t);
        return wrong < 0 ? refused(wrong) : looksOfAll(t);
    }

    public int hold(int what) {
        if (what < 0 || what > 2) {
            return refused(OTHER);
        }
        if (!rowTellsSquares(1)) {
            return refused(STATE);
        }
        long held = squaresOfRow();
        switch (what) {
            case 0: return yesOrNo((reachedWhenHeld(held) & garden.squaresOf(ROAD)) != 0);
            case 1: return Long.bitCount(reachedWhenHeld(held));
            default: return oneMore(held);
        }
    }

    public long ways(int n, int square) {
        int wrong = wrongWays(n, square);
        if (wrong < 0) {
            return refusedLong(wrong);
        }
        chances.walk(garden, n);
        return chances.endingOn(square);
    }

    public long likely(int n, int square, int part) {
        int wrong = wrongWays(n, square);
        if (wrong < 0) {
            return refusedLong(wrong);
        }
        if (part != 0 && part != 1) {
            return refusedLong(OTHER);
        }
        chances.walk(garden, n);
        long above = chances.endingOn(square);
        long below = chances.inAll();
        long common = greatestDivisor(below, above);
        return common == 0 ? 0 : (part == 0 ? above : below) / common;
    }

    public int likeliest(int n) {
        int wrong = wrongWays(n, 0);
        if (wrong < 0) {
            return refused(wrong);
        }
        chances.walk(garden, n);
        return chances.likeliestSquare();
    }

    public int turning(int facing, int n) {
        if (facing < 0 || facing >= DIRECTIONS) {
            return refused(OTHER);
        }
        if (n < 0) {
            return refused(BELOW);
        }
        if (n > TURNING_STEPS) {
            return refused(ROOM);
        }
        return least(afterTurning(facing, n));
    }

    public int finds(int what) {
        if (what < 0 || what > 2) {
            return refused(OTHER);
        }
        if (row.size % 2 != 0 || !rowTellsSquares(2)) {
            return refused(STATE);
        }
        if (what == 0) {
            return firstWrongPair(garden.home);
        }
        long homes = homesOfTraces();
        return what == 1 ? Long.bitCount(homes) : least(homes);
    }

    public int row(int v) {
        if (v < 0) {
            return refused(BELOW);
        }
        if (v > LAST_NUMBER || row.isFull()) {
            return refused(ROOM);
        }
        return row.add(v);
    }

    public int judge(int t) {
        int wrong = wrongMinute(t);
        if (wrong < 0) {
            return refused(wrong);
        }
        hunt.begin(garden, reachedBy(t), t);
        for (int i = 0; i < row.size; i++) {
            if (!has(hunt.set, row.at(i))) {
                return i;
            }
            hunt.look(garden, row.at(i));
        }
        return NONE;
    }

    public int behind(int t) {
        int wrong = wrongMinute(t);
        if (wrong < 0) {
            return refused(wrong);
        }
        hunt.begin(garden, reachedBy(t), t);
        for (int i = 0; i < row.size; i++) {
            hunt.look(garden, row.at(i));
        }
        row.clear();
        return Long.bitCount(hunt.set);
    }

    public int lots(int n, int z) {
        if (n < 1) {
            return refused(BELOW);
        }
        if (n > WALKS) {
            return refused(ROOM);
        }
        lot.seed(z);
        int outs = 0;
        for (int walk = 0; walk < n; walk++) {
            if ((afterWalkByLot() & garden.squaresOf(ROAD)) != 0) {
                outs++;
            }
        }
        return outs;
    }

    public int image() {
        image.become(garden);
        imageTaken = true;
        return garden.home;
    }

    public int on() {
        if (!imageTaken) {
            return refused(STATE);
        }
        garden.become(image);
        return garden.home;
    }

    public int count(int what) {
        switch (what) {
            case 0: return garden.home;
            case 1: return garden.pace;
            case 2: return garden.warm;
            case 3: return garden.seekers;
            case 4: return Long.bitCount(garden.squaresOf(HEDGE));
            case 5: return Long.bitCount(garden.squaresOf(GAP));
            case 6: return Long.bitCount(garden.squaresOf(ROAD));
            case 7: return row.size;
            case 8: return telling.letters.size;
            default: return refusalsOf(10 - what);
        }
    }

    // Refusals

    private int refused(int number) {
        int i = -number;
        if (i >= 0 && i < refusals.length) {
            refusals[i]++;
        }
        return number;
    }

    private long refusedLong(int number) {
        return REFUSED_LONG - refused(number);
    }

    private int refusalsOf(int number) {
        return number > NOBODY || number < ROOM ? NONE : refusals[-number];
    }

    private static int wrongMinute(int t) {
        return wrongNumber(t, LAST_MINUTE);
    }

    private static int wrongNumber(int v, int greatest) {
        if (v < 0) {
            return BELOW;
        }
        return v > greatest ? ROOM : 0;
    }

    private int wrongSearch(int seeker, int t, int looks) {
        if (!garden.hasSeeker(seeker)) {
            return NOBODY;
        }
        if (t < 0 || looks < 0) {
            return BELOW;
        }
        return t > LAST_MINUTE || looks > LOOKS_TOLD ? ROOM : 0;
    }

    private static int wrongWays(int n, int square) {
        int wrong = wrongNumber(n, WAY_STEPS);
        if (wrong < 0) {
            return wrong;
        }
        return isSquare(square) ? 0 : NOBODY;
    }

    // What becomes another one

    private int setHome(int square) {
        if (!isSquare(square)) {
            return refused(NOBODY);
        }
        int was = garden.home;
        return garden.liveAt(square) ? was : refused(STATE);
    }

    private int setPace(int pace) {
        if (pace < 1) {
            return refused(BELOW);
        }
        int was = garden.pace;
        return garden.takePace(pace) ? was : refused(ROOM);
    }

    private int setWarm(int warm) {
        if (warm < 0) {
            return refused(BELOW);
        }
        int was = garden.warm;
        return garden.takeWarm(warm) ? was : refused(ROOM);
    }

    // Where she may be, and how she gets out

    private long reachedBy(int t) {
        wave.spread(garden, garden.home, 0);
        return garden.pace < 1 ? 0 : wave.within(t / garden.pace);
    }

    private boolean getsOut(long shut) {
        return (flooded(shut) & garden.squaresOf(ROAD)) != 0;
    }

    /** All squares she can ever be on while those of one set are as hedges. */
    private long flooded(long shut) {
        long open = garden.open() & ~shut;
        long leavable = open & ~garden.squaresOf(ROAD);
        long reached = bit(garden.home) & open;
        long fresh = reached;
        for (int i = 0; i < SQUARES && fresh != 0; i++) {
            fresh = beside(fresh & leavable) & open & ~reached;
            reached |= fresh;
        }
        return reached;
    }

    private static long gapsOfBits(long gaps, int bits) {
        long chosen = 0;
        long rest = gaps;
        for (int i = 0; i < SHUT_GAPS; i++) {
            long gap = rest & -rest;
            if ((bits >> i & 1) != 0) {
                chosen |= gap;
            }
            rest ^= gap;
        }
        return chosen;
    }

    private long reachedWhenHeld(long held) {
        return flooded(held & ~bit(garden.home));
    }

    // HOME is asked too: holding it changes nothing, but it may be the least of several.
    private int oneMore(long held) {
        int best = NONE;
        int fewest = SQUARES + 1;
        for (int square = 0; square < SQUARES; square++) {
            int reached = Long.bitCount(reachedWhenHeld(held | bit(square)));
            if (reached < fewest) {
                fewest = reached;
                best = square;
            }
        }
        return best;
    }

    // Searches

    private int looksTillEmpty(int seeker, int kind, int t) {
        hunt.begin(garden, reachedBy(t), t);
        for (int looks = 0; looks <= LOOKS_TRIED; looks++) {
            if (hunt.set == 0) {
                return looks;
            }
            hunt.seek(garden, seeker, kind);
        }
        return NONE;
    }

    private void lookOften(int seeker, int t, int looks) {
        hunt.begin(garden, reachedBy(t), t);
        for (int i = 0; i < looks; i++) {
            hunt.seek(garden, seeker, garden.kindOfSeeker(seeker));
        }
    }

    private int looksOfAll(int t) {
        hunt.begin(garden, reachedBy(t), t);
        int seeker = 0;
        for (int looks = 0; looks <= LOOKS_TRIED; looks++) {
            if (hunt.set == 0) {
                return looks;
            }
            hunt.seek(garden, seeker, garden.kindOfSeeker(seeker));
            seeker = garden.hasSeeker(seeker + 1) ? seeker + 1 : 0;
        }
        return NONE;
    }

    // The row

    /** Whether every number of the row, or every second one from the first on, tells a square. */
    private boolean rowTellsSquares(int apart) {
        for (int i = 0; i < row.size; i += Math.max(1, apart)) {
            if (!isSquare(row.at(i))) {
                return false;
            }
        }
        return true;
    }

    private long squaresOfRow() {
        long set = 0;
        for (int i = 0; i < row.size; i++) {
            set |= bit(row.at(i));
        }
        return set;
    }

    // Habits, traces and lots

    private long afterTurning(int facing, int n) {
        long leavable = EVERYWHERE & ~garden.squaresOf(ROAD);
        long at = bit(garden.home);
        int face = facing;
        for (int i = 0; i < n && (at & leavable) != 0; i++) {
            long ahead = moved(at, face) & garden.open();
            if (ahead != 0) {
                at = ahead;
            } else {
                face = (face + 1) % DIRECTIONS;
            }
        }
        return at;
    }

    private int firstWrongPair(int home) {
        int at = home;
        int minute = 0;
        for (int pair = 0; 2 * pair + 1 < row.size; pair++) {
            int square = row.at(2 * pair);
            int then = row.at(2 * pair + 1);
            wave.spread(garden, at, 0);
            int steps = wave.stepsTo(bit(square));
            if (steps < 0 || steps * garden.pace > then - minute) {
                return pair;
            }
            at = square;
            minute = then;
        }
        return NONE;
    }

    private long homesOfTraces() {
        long homes = 0;
        for (int square = 0; square < SQUARES; square++) {
            if (has(garden.open(), square) && firstWrongPair(square) < 0) {
                homes |= bit(square);
            }
        }
        return homes;
    }

    private long afterWalkByLot() {
        long leavable = EVERYWHERE & ~garden.squaresOf(ROAD);
        long at = bit(garden.home);
        for (int i = 0; i < WALK_STEPS; i++) {
            long ahead = moved(at & leavable, drawnDirection(lot.draw(DIRECTIONS))) & garden.open();
            if (ahead != 0) {
                at = ahead;
            }
        }
        return at;
    }

    private static int drawnDirection(int draw) {
        switch (draw) {
            case 0: return UP;
            case 1: return LEFT;
            case 2: return RIGHT;
            default: return DOWN;
        }
    }

    // Squares and sets of them

    private static boolean isSquare(int square) {
        return square >= 0 && square < SQUARES;
    }

    private static long bit(int square) {
        return isSquare(square) ? 1L << square : 0;
    }

    private static boolean has(long set, int square) {
        return (set & bit(square)) != 0;
    }

    private static int least(long set) {
        return set == 0 ? NONE : Long.bitCount((set & -set) - 1);
    }

    private static long moved(long set, int direction) {
        switch (direction) {
            case UP: return set >>> SIDE;
            case LEFT: return (set & ~LEFT_COLUMN) >>> 1;
            case DOWN: return (set << SIDE) & EVERYWHERE;
            case RIGHT: return (set & ~RIGHT_COLUMN) << 1;
            default: return 0;
        }
    }

    private static long beside(long set) {
        return moved(set, UP) | moved(set, LEFT) | moved(set, DOWN) | moved(set, RIGHT);
    }

    private static int yesOrNo(boolean yes) {
        return yes ? 1 : 0;
    }

    private static long greatestDivisor(long a, long b) {
        long greater = a;
        long rest = b;
        for (int i = 0; i < DIVISIONS && rest != 0; i++) {
            long next = greater % rest;
            greater = rest;
            rest = next;
        }
        return greater;
    }

    /** The garden: squares by their kinds, her home and habits, and who seeks her. */
    private static final class Garden {
        private static final int SEEKERS = 3;

        private final long[] byKind = new long[KINDS];
        private final int[] seekerKinds = new int[SEEKERS];
        private final int[] seekerSquares = new int[SEEKERS];
        private int seekers;
        private int home = 14;
        private int pace = 2;
        private int warm = 5;

        private Garden() {
            byKind[LAWN] = EVERYWHERE;
        }

        private void become(Garden other) {
            System.arraycopy(other.byKind, 0, byKind, 0, KINDS);
            System.arraycopy(other.seekerKinds, 0, seekerKinds, 0, SEEKERS);
            System.arraycopy(other.seekerSquares, 0, seekerSquares, 0, SEEKERS);
            seekers = other.seekers;
            home = other.home;
            pace = other.pace;
            warm = other.warm;
        }

        private long squaresOf(int kind) {
            return kind >= 0 && kind < byKind.length ? byKind[kind] : 0;
        }

        private long open() {
            return EVERYWHERE & ~squaresOf(HEDGE);
        }

        private int kindAt(int square) {
            for (int kind = 0; kind < KINDS; kind++) {
                if (has(squaresOf(kind), square)) {
                    return kind;
                }
            }
            return LAWN;
        }

        private int stepsOff(int square) {
            switch (kindAt(square)) {
                case HEDGE: return 0;
                case ROAD: return 0;
                case SUN: return stepsOffSun();
                case BED: return BED_STEPS;
                default: return 1;
            }
        }

        private int stepsOffSun() {
            return 1 + warm / 3;
        }

        private boolean lay(int kind, int first, int last) {
            if (!isSquare(first) || !isSquare(last) || first > last) {
                return false;
            }
            if (kind < 0 || kind >= byKind.length) {
                return false;
            }
            if (kind == HEDGE && first <= home && home <= last) {
                return false;
            }
            long squares = (1L << (last + 1)) - (1L << first);
            for (int other = 0; other < byKind.length; other++) {
                byKind[other] &= ~squares;
            }
            byKind[kind] |= squares;
            return true;
        }

        private boolean liveAt(int square) {
            if (!has(open(), square)) {
                return false;
            }
            home = square;
            return true;
        }

        private boolean takePace(int minutes) {
            if (minutes < 1 || minutes > LAST_FACTOR) {
                return false;
            }
            pace = minutes;
            return true;
        }

        private boolean takeWarm(int warmth) {
            if (warmth < 0 || warmth > LAST_FACTOR) {
                return false;
            }
            warm = warmth;
            return true;
        }

        private boolean addSeeker(int kind, int square) {
            if (seekers < 0 || seekers >= SEEKERS || !isSquare(square)) {
                return false;
            }
            seekerKinds[seekers] = kind;
            seekerSquares[seekers] = square;
            seekers++;
            return true;
        }

        private boolean hasSeeker(int seeker) {
            return seeker >= 0 && seeker < seekers && seeker < SEEKERS;
        }

        private int kindOfSeeker(int seeker) {
            return hasSeeker(seeker) ? seekerKinds[seeker] : FIRST;
        }

        private int squareOfSeeker(int seeker) {
            return hasSeeker(seeker) ? seekerSquares[seeker] : NONE;
        }

        private void placeSeeker(int seeker, int square) {
            if (hasSeeker(seeker)) {
                seekerSquares[seeker] = square;
            }
        }
    }

    /** The letters that are told, and how they become a garden. */
    private static final class Telling {
        private static final int LETTERS = 96;
        private static final int MISFIT = -1000;
        private static final int NOT_AS_IT_MUST_BE = -2000;
        private static final String KIND_LETTERS = "lhgsbr";
        private static final String SEEKER_LETTERS = "fnmea";

        private final Numbers letters = new Numbers(LETTERS);

        /** How many statements came into the draft; or the fault, and the draft is spoilt. */
        private int tellTo(Garden draft) {
            int misfit = firstMisfit();
            if (misfit >= 0) {
                return MISFIT - misfit;
            }
            int statements = 0;
            int place = 0;
            while (place < letters.size && statements < LETTERS) {
                if (!comes(draft, place)) {
                    return NOT_AS_IT_MUST_BE - place;
                }
                statements++;
                place += 1 + shapeBehind(letters.at(place)).length();
            }
            return statements;
        }

        private int firstMisfit() {
            String shape = "";
            int done = 0;
            for (int place = 0; place < letters.size; place++) {
                int letter = letters.at(place);
                if (done < shape.length()) {
                    if (!fits(letter, shape.charAt(done))) {
                        return place;
                    }
                    done++;
                } else {
                    shape = shapeBehind(letter);
                    done = 0;
                    if (shape.isEmpty()) {
                        return place;
                    }
                }
            }
            return letters.size > 0 && done == shape.length() ? -1 : letters.size;
        }

        /** What comes behind a statement's first letter: K, S kinds of squares, seekers, D a digit. */
        private static String shapeBehind(int head) {
            switch (head) {
                case 'k': return "KDD;";
                case 'v': return "KDDDD;";
                case 'h': return "DD;";
                case 'p': return "D;";
                case 'w': return "D;";
                case 's': return "SDD;";
                default: return "";
            }
        }

        private static boolean fits(int letter, char sign) {
            switch (sign) {
                case 'K': return KIND_LETTERS.indexOf((char) letter) >= 0;
                case 'S': return SEEKER_LETTERS.indexOf((char) letter) >= 0;
                case 'D': return letter >= '0' && letter <= '9';
                default: return letter == sign;
            }
        }

        private boolean comes(Garden draft, int place) {
            int kind = letters.at(place + 1);
            switch (letters.at(place)) {
                case 'k':
                    return draft.lay(KIND_LETTERS.indexOf((char) kind), pairAt(place + 2), pairAt(place + 2));
                case 'v':
                    return draft.lay(KIND_LETTERS.indexOf((char) kind), pairAt(place + 2), pairAt(place + 4));
                case 'h':
                    return draft.liveAt(pairAt(place + 1));
                case 'p':
                    return draft.takePace(digitAt(place + 1));
                case 'w':
                    return draft.takeWarm(digitAt(place + 1));
                case 's':
                    return draft.addSeeker(SEEKER_LETTERS.indexOf((char) kind), pairAt(place + 2));
                default:
                    return false;
            }
        }

        private int digitAt(int place) {
            return letters.at(place) - '0';
        }

        private int pairAt(int place) {
            return 10 * digitAt(place) + digitAt(place + 1);
        }
    }

    /** Numbers as they come, up to a limit. */
    private static final class Numbers {
        private final int[] numbers;
        private int size;

        private Numbers(int most) {
            numbers = new int[Math.max(0, most)];
        }

        private boolean isFull() {
            return size >= numbers.length;
        }

        private int add(int number) {
            if (size >= 0 && size < numbers.length) {
                numbers[size] = number;
                size++;
            }
            return size;
        }

        private void clear() {
            size = 0;
        }

        private int at(int i) {
            return i >= 0 && i < size && i < numbers.length ? numbers[i] : NONE;
        }
    }

    /** Her quickest ways from one square: a layer of squares for each number of steps. */
    private static final class Wave {
        private static final int MOST_STEPS_OFF = 4;
        private static final int LAYERS = (SQUARES - 1) * MOST_STEPS_OFF + 1;

        private final long[] layers = new long[LAYERS];
        private int size;

        private void spread(Garden garden, int from, long shut) {
            long open = garden.open() & ~shut;
            long suns = garden.squaresOf(SUN);
            long beds = garden.squaresOf(BED);
            long others = open & ~(suns | beds | garden.squaresOf(ROAD));
            int sunSteps = garden.stepsOffSun();
            long reached = bit(from) & open;
            layers[0] = reached;
            size = 1;
            int last = 0;
            for (int step = 1; step < layers.length && step - last <= MOST_STEPS_OFF; step++) {
                long leaving = layer(step - 1) & others;
                leaving |= layer(step - BED_STEPS) & beds;
                leaving |= layer(step - sunSteps) & suns;
                long fresh = beside(leaving) & open & ~reached;
                layers[step] = fresh;
                size = step + 1;
                reached |= fresh;
                last = fresh != 0 ? step : last;
            }
        }

        private long layer(int step) {
            return step >= 0 && step < size && step < layers.length ? layers[step] : 0;
        }

        private long within(int steps) {
            long reached = 0;
            for (int step = 0; step <= steps && step < size; step++) {
                reached |= layer(step);
            }
            return reached;
        }

        private int stepsTo(long squares) {
            for (int step = 0; step < size; step++) {
                if ((layer(step) & squares) != 0) {
                    return step;
                }
            }
            return NONE;
        }
    }

    /** A search: the set of squares where she may still be, look by look. */
    private static final class Hunt {
        private static final int FARTHEST = 2 * (SIDE - 1);

        private final long[] stands = new long[Garden.SEEKERS];
        private long set;
        private int minute;

        private void begin(Garden garden, long squares, int t) {
            set = squares;
            minute = t;
            for (int seeker = 0; seeker < stands.length; seeker++) {
                stands[seeker] = bit(garden.squareOfSeeker(seeker));
            }
        }

        private void look(Garden garden, int square) {
            set &= ~bit(square);
            minute++;
            if (garden.pace > 0 && minute % garden.pace == 0) {
                set |= beside(set & ~garden.squaresOf(ROAD)) & garden.open();
            }
        }

        private void seek(Garden garden, int seeker, int kind) {
            int square = choice(garden, seeker, kind);
            look(garden, square);
            boolean walks = kind == NEAR || kind == AHEAD;
            if (walks && isSquare(square) && seeker >= 0 && seeker < stands.length) {
                stands[seeker] = bit(square);
            }
        }

        private int choice(Garden garden, int seeker, int kind) {
            switch (kind) {
                case NEAR: return nearest(standOf(seeker));
                case MOST: return withMostBeside();
                case EDGE: return withFewestBeside();
                case AHEAD: return nearest(goalAhead(garden.squaresOf(ROAD), seeker));
                default: return least(set);
            }
        }

        private long standOf(int seeker) {
            return seeker >= 0 && seeker < stands.length ? stands[seeker] : 0;
        }

        private long goalAhead(long roads, int seeker) {
            return roads != 0 ? roads : standOf(seeker);
        }

        private int nearest(long from) {
            long around = from;
            for (int apart = 0; apart < FARTHEST && (around & set) == 0; apart++) {
                around |= beside(around);
            }
            return least(around & set);
        }

        private int withMostBeside() {
            int best = least(set);
            int most = 0;
            for (int square = 0; square < SQUARES; square++) {
                int near = Long.bitCount(beside(1L << square & set) & set);
                if (near > most) {
                    most = near;
                    best = square;
                }
            }
            return best;
        }

        private int withFewestBeside() {
            int best = least(set);
            int fewest = DIRECTIONS + 1;
            for (int square = 0; square < SQUARES; square++) {
                int near = Long.bitCount(beside(1L << square & set) & set);
                if (near > 0 && near < fewest) {
                    fewest = near;
                    best = square;
                }
            }
            return best;
        }
    }

    /** How many ways of so many steps end on each square. */
    private static final class Chances {
        private final long[] ending = new long[SQUARES];
        private final long[] before = new long[SQUARES];

        private void walk(Garden garden, int steps) {
            for (int square = 0; square < SQUARES; square++) {
                ending[square] = square == garden.home ? 1 : 0;
            }
            for (int step = 0; step < steps; step++) {
                System.arraycopy(ending, 0, before, 0, SQUARES);
                for (int square = 0; square < SQUARES; square++) {
                    ending[square] = before[square] + comingOnto(garden, square);
                }
            }
        }

        private long comingOnto(Garden garden, int square) {
            long here = bit(square) & garden.open();
            long coming = 0;
            for (int direction = 0; direction < DIRECTIONS; direction++) {
                int from = least(moved(here, direction) & ~garden.squaresOf(ROAD));
                if (isSquare(from)) {
                    coming += before[from];
                }
            }
            return coming;
        }

        private long endingOn(int square) {
            return isSquare(square) ? ending[square] : 0;
        }

        private long inAll() {
            long all = 0;
            for (int square = 0; square < SQUARES; square++) {
                all += ending[square];
            }
            return all;
        }

        private int likeliestSquare() {
            int best = 0;
            for (int square = 1; square < SQUARES; square++) {
                if (endingOn(square) > endingOn(best)) {
                    best = square;
                }
            }
            return best;
        }
    }

    /** Draws that follow from a seed. */
    private static final class Lot {
        private static final int WITHOUT_SIGN = 0x7fffffff;

        private int z;

        private void seed(int seed) {
            z = seed;
        }

        private int draw(int below) {
            z = z * 1664525 + 1013904223;
            return below < 1 ? 0 : (z & WITHOUT_SIGN) / 256 % below;
        }
    }
}
