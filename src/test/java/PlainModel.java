import java.math.BigInteger;
import java.util.ArrayList;
import java.util.Arrays;
import java.util.Collection;
import java.util.HashSet;
import java.util.List;
import java.util.Set;
import java.util.TreeSet;
import java.util.regex.Matcher;
import java.util.regex.Pattern;

/**
 * The document once more, by other means (sets of numbers, regular expressions, big numbers) and
 * with no thought of speed: what the program's answers are compared with.
 */
final class PlainModel {
    private static final String KINDS = "lhgsbr";
    private static final String SEEKERS = "fnmea";
    private static final Pattern GARDEN = Pattern.compile(
        "(k[lhgsbr][0-9]{2};|v[lhgsbr][0-9]{4};|h[0-9]{2};|p[0-9];|w[0-9];|s[fnmea][0-9]{2};)+");

    private char[] kinds = new char[36];
    private int home = 14;
    private int pace = 2;
    private int warm = 5;
    private List<int[]> seekers = new ArrayList<>();
    private final List<Integer> row = new ArrayList<>();
    private final StringBuilder letters = new StringBuilder();
    private final int[] refusals = new int[7];
    private PlainModel image;

    PlainModel() {
        Arrays.fill(kinds, 'l');
    }

    private int no(int number) {
        refusals[-number]++;
        return number;
    }

    private long noLong(int number) {
        return 4000000000000000000L - no(number);
    }

    private static boolean in(int v, int least, int greatest) {
        return v >= least && v <= greatest;
    }

    // The garden

    private void takeOver(PlainModel other) {
        kinds = other.kinds.clone();
        home = other.home;
        pace = other.pace;
        warm = other.warm;
        seekers = new ArrayList<>();
        for (int[] seeker : other.seekers) {
            seekers.add(seeker.clone());
        }
    }

    int letter(int c) {
        if (c < 0) {
            return no(-4);
        }
        if (c > 255 || letters.length() == 96) {
            return no(-6);
        }
        letters.append((char) c);
        return letters.length();
    }

    int garden() {
        String text = letters.toString();
        letters.setLength(0);
        for (int end = 1; end <= text.length(); end++) {
            Matcher matcher = GARDEN.matcher(text.substring(0, end));
            if (!matcher.matches() && !matcher.hitEnd()) {
                return -1000 - (end - 1);
            }
        }
        if (!GARDEN.matcher(text).matches()) {
            return -1000 - text.length();
        }
        PlainModel next = new PlainModel();
        next.takeOver(this);
        int place = 0;
        String[] statements = text.split(";");
        for (String statement : statements) {
            if (!next.comes(statement)) {
                return -2000 - place;
            }
            place += statement.length() + 1;
        }
        takeOver(next);
        return statements.length;
    }

    private boolean comes(String statement) {
        char head = statement.charAt(0);
        String rest = statement.substring(1);
        if (head == 'h' || head == 'p' || head == 'w') {
            int v = Integer.parseInt(rest);
            if (head == 'p') {
                pace = v;
                return v > 0;
            }
            if (head == 'w') {
                warm = v;
                return true;
            }
            home = v;
            return v < 36 && kinds[v] != 'h';
        }
        int first = Integer.parseInt(rest.substring(1, 3));
        if (head == 's') {
            seekers.add(new int[] {SEEKERS.indexOf(rest.charAt(0)), first});
            return first < 36 && seekers.size() <= 3;
        }
        int last = head == 'v' ? Integer.parseInt(rest.substring(3)) : first;
        for (int square = first; square <= Math.min(35, last); square++) {
            kinds[square] = rest.charAt(0);
        }
        return last < 36 && first <= last && kinds[home] != 'h';
    }

    private boolean canBe(int square, Set<Integer> shut) {
        return kinds[square] != 'h' && !shut.contains(square);
    }

    private int off(int square) {
        switch (kinds[square]) {
            case 's': return 1 + warm / 3;
            case 'b': return 2;
            case 'l':
            case 'g': return 1;
            default: return 0;
        }
    }

    int square(int square, int what) {
        if (!in(square, 0, 35)) {
            return no(-1);
        }
        if (!in(what, 0, 2)) {
            return no(-2);
        }
        if (what == 0) {
            return KINDS.indexOf(kinds[square]);
        }
        return what == 1 ? (kinds[square] == 'h' ? 0 : 1) : off(square);
    }

    int turnTo(int square, int kind) {
        if (!in(square, 0, 35)) {
            return no(-1);
        }
        if (!in(kind, 0, 5)) {
            return no(-2);
        }
        if (square == home && kind == 1) {
            return no(-3);
        }
        int was = KINDS.indexOf(kinds[square]);
        kinds[square] = KINDS.charAt(kind);
        return was;
    }

    int set(int what, int v) {
        if (!in(what, 0, 2)) {
            return no(-2);
        }
        if (what == 0 && !in(v, 0, 35)) {
            return no(-1);
        }
        if (what > 0 && v < (what == 1 ? 1 : 0)) {
            return no(-4);
        }
        if (what > 0 && v > 9) {
            return no(-6);
        }
        if (what == 0 && kinds[v] == 'h') {
            return no(-3);
        }
        int was = what == 0 ? home : what == 1 ? pace : warm;
        home = what == 0 ? v : home;
        pace = what == 1 ? v : pace;
        warm = what == 2 ? v : warm;
        return was;
    }

    int seeker(int seeker, int what) {
        if (!in(seeker, 0, seekers.size() - 1)) {
            return no(-1);
        }
        return in(what, 0, 1) ? seekers.get(seeker)[what] : no(-2);
    }

    int stand(int seeker, int square) {
        if (!in(seeker, 0, seekers.size() - 1) || !in(square, 0, 35)) {
            return no(-1);
        }
        int stood = seekers.get(seeker)[1];
        seekers.get(seeker)[1] = square;
        return stood;
    }

    // Where she may be

    private static List<Integer> beside(int square) {
        List<Integer> beside = new ArrayList<>();
        for (int other = 0; other < 36; other++) {
            if (apart(square, other) == 1) {
                beside.add(other);
            }
        }
        return beside;
    }

    private static int apart(int one, int other) {
        return Math.abs(one / 6 - other / 6) + Math.abs(one % 6 - other % 6);
    }

    /** The fewest steps from a square to each; -9 where there is no way. */
    private int[] stepsFrom(int from, Set<Integer> shut) {
        int[] steps = new int[36];
        Arrays.fill(steps, -9);
        if (!canBe(from, shut)) {
            return steps;
        }
        steps[from] = 0;
        for (boolean shorter = true; shorter; ) {
            shorter = false;
            for (int square = 0; square < 36; square++) {
                if (steps[square] < 0 || kinds[square] == 'r') {
                    continue;
                }
                for (int other : beside(square)) {
                    int way = steps[square] + off(square);
                    if (canBe(other, shut) && (steps[other] < 0 || way < steps[other])) {
                        steps[other] = way;
                        shorter = true;
                    }
                }
            }
        }
        return steps;
    }

    int steps(int square) {
        return in(square, 0, 35) ? stepsFrom(home, Set.of())[square] : no(-1);
    }

    private TreeSet<Integer> setAt(int t) {
        int[] steps = stepsFrom(home, Set.of());
        TreeSet<Integer> set = new TreeSet<>();
        for (int square = 0; square < 36; square++) {
            if (steps[square] >= 0 && steps[square] <= t / pace) {
                set.add(square);
            }
        }
        return set;
    }

    int mayBe(int t, int square) {
        if (t < 0 || square < -1) {
            return no(-4);
        }
        if (t > 999) {
            return no(-6);
        }
        if (square > 35) {
            return no(-1);
        }
        return square == -1 ? setAt(t).size() : setAt(t).contains(square) ? 1 : 0;
    }

    private int outSteps(Set<Integer> shut) {
        int[] steps = stepsFrom(home, shut);
        int out = -9;
        for (int square : ofKind('r')) {
            if (steps[square] >= 0 && (out < 0 || steps[square] < out)) {
                out = steps[square];
            }
        }
        return out;
    }

    private List<Integer> ofKind(char kind) {
        List<Integer> squares = new ArrayList<>();
        for (int square = 0; square < 36; square++) {
            if (kinds[square] == kind) {
                squares.add(square);
            }
        }
        return squares;
    }

    int out(int what) {
        if (!in(what, 0, 1)) {
            return no(-2);
        }
        int out = outSteps(Set.of());
        if (out < 0) {
            return -9;
        }
        if (what == 0) {
            return out * pace;
        }
        int[] steps = stepsFrom(home, Set.of());
        for (int square : ofKind('r')) {
            if (steps[square] == out) {
                return square;
            }
        }
        return -9;
    }

    int shut() {
        List<Integer> gaps = ofKind('g');
        gaps = gaps.subList(0, Math.min(10, gaps.size()));
        for (int many = 0; many <= gaps.size(); many++) {
            for (int bits = 0; bits < 1 << gaps.size(); bits++) {
                Set<Integer> shut = new HashSet<>();
                for (int i = 0; i < gaps.size(); i++) {
                    if ((bits & 1 << i) != 0) {
                        shut.add(gaps.get(i));
                    }
                }
                if (shut.size() == many && outSteps(shut) < 0) {
                    return bits;
                }
            }
        }
        return -9;
    }

    int firstGap() {
        int best = -9;
        long latest = -1;
        for (int gap : ofKind('g')) {
            int out = outSteps(Set.of(gap));
            long late = out < 0 ? Long.MAX_VALUE : out;
            if (late > latest) {
                latest = late;
                best = gap;
            }
        }
        return best;
    }

    // Searches

    private void look(Set<Integer> set, int square, int minuteBehind) {
        set.remove(square);
        if (minuteBehind % pace != 0) {
            return;
        }
        Set<Integer> more = new HashSet<>();
        for (int one : set) {
            if (kinds[one] != 'r') {
                more.addAll(beside(one));
            }
        }
        more.removeIf(other -> kinds[other] == 'h');
        set.addAll(more);
    }

    private static int nearness(int square, Collection<Integer> to) {
        int least = 99;
        for (int other : to) {
            least = Math.min(least, apart(square, other));
        }
        return least;
    }

    private int choice(TreeSet<Integer> set, int kind, int stand) {
        int best = -9;
        int bestMark = Integer.MAX_VALUE;
        for (int square : set) {
            int mark = mark(set, SEEKERS.charAt(kind), stand, square);
            if (mark < bestMark) {
                bestMark = mark;
                best = square;
            }
        }
        return best;
    }

    /** The less, the sooner he looks there. */
    private int mark(Set<Integer> set, char kind, int stand, int square) {
        List<Integer> near = beside(square);
        near.retainAll(set);
        switch (kind) {
            case 'n': return apart(square, stand);
            case 'm': return -near.size();
            case 'e': return near.isEmpty() ? 99 : near.size();
            case 'a': return nearness(square, ofKind('r').isEmpty() ? List.of(stand) : ofKind('r'));
            default: return 0;
        }
    }

    /** The sizes of the set behind 0, 1 .. looks, and what is looked at, by seekers in turn. */
    private int[][] searching(List<int[]> those, int t, int looks) {
        List<int[]> now = new ArrayList<>();
        those.forEach(seeker -> now.add(seeker.clone()));
        TreeSet<Integer> set = setAt(t);
        int[][] told = new int[2][looks + 1];
        for (int i = 0; i <= looks; i++) {
            int[] seeker = now.get(i % now.size());
            int square = choice(set, seeker[0], seeker[1]);
            told[0][i] = set.size();
            told[1][i] = square;
            if (square >= 0 && (seeker[0] == 1 || seeker[0] == 4)) {
                seeker[1] = square;
            }
            look(set, square, t + i + 1);
        }
        return told;
    }

    private int looksTillEmpty(List<int[]> those, int t) {
        int[] sizes = searching(those, t, 200)[0];
        for (int looks = 0; looks <= 200; looks++) {
            if (sizes[looks] == 0) {
                return looks;
            }
        }
        return -9;
    }

    private int wrongSearch(int seeker, int t, int n) {
        if (!in(seeker, 0, seekers.size() - 1)) {
            return -1;
        }
        if (t < 0 || n < 0) {
            return -4;
        }
        return t > 999 || n > 60 ? -6 : 0;
    }

    int search(int seeker, int t) {
        int wrong = wrongSearch(seeker, t, 0);
        return wrong < 0 ? no(wrong) : looksTillEmpty(seekers.subList(seeker, seeker + 1), t);
    }

    int left(int seeker, int t, int n) {
        int wrong = wrongSearch(seeker, t, n);
        return wrong < 0 ? no(wrong) : searching(seekers.subList(seeker, seeker + 1), t, n)[0][n];
    }

    int looksAt(int seeker, int t, int i) {
        int wrong = wrongSearch(seeker, t, i);
        return wrong < 0 ? no(wrong) : searching(seekers.subList(seeker, seeker + 1), t, i)[1][i];
    }

    int bestSeeker(int seeker, int t) {
        int wrong = wrongSearch(seeker, t, 0);
        if (wrong < 0) {
            return no(wrong);
        }
        int best = -9;
        int soonest = 999;
        for (int kind = 4; kind >= 0; kind--) {
            int looks = looksTillEmpty(List.of(new int[] {kind, seekers.get(seeker)[1]}), t);
            if (looks != -9 && looks <= soonest) {
                soonest = looks;
                best = kind;
            }
        }
        return best;
    }

    int together(int t) {
        if (seekers.isEmpty()) {
            return no(-3);
        }
        if (!in(t, 0, 999)) {
            return no(t < 0 ? -4 : -6);
        }
        return looksTillEmpty(seekers, t);
    }

    // Held squares, ways, turning

    private int[] stepsWhenHeld(Set<Integer> held) {
        Set<Integer> shut = new HashSet<>(held);
        shut.remove(home);
        return stepsFrom(home, shut);
    }

    private int everBe(Set<Integer> held) {
        int many = 0;
        for (int steps : stepsWhenHeld(held)) {
            many += steps >= 0 ? 1 : 0;
        }
        return many;
    }

    int hold(int what) {
        if (!in(what, 0, 2)) {
            return no(-2);
        }
        Set<Integer> held = new HashSet<>(row);
        if (row.stream().anyMatch(v -> v > 35)) {
            return no(-3);
        }
        if (what == 0) {
            int[] steps = stepsWhenHeld(held);
            return ofKind('r').stream().anyMatch(square -> steps[square] >= 0) ? 1 : 0;
        }
        if (what == 1) {
            return everBe(held);
        }
        int best = -9;
        int fewest = 99;
        for (int square = 0; square < 36; square++) {
            Set<Integer> more = new HashSet<>(held);
            more.add(square);
            if (everBe(more) < fewest) {
                fewest = everBe(more);
                best = square;
            }
        }
        return best;
    }

    /** By pushing all ways on, a step at a time. */
    private BigInteger[] waysOf(int n) {
        BigInteger[] ways = new BigInteger[36];
        Arrays.fill(ways, BigInteger.ZERO);
        ways[home] = BigInteger.ONE;
        for (int step = 0; step < n; step++) {
            BigInteger[] next = ways.clone();
            for (int square = 0; square < 36; square++) {
                for (int other : beside(square)) {
                    if (kinds[square] != 'r' && kinds[other] != 'h') {
                        next[other] = next[other].add(ways[square]);
                    }
                }
            }
            ways = next;
        }
        return ways;
    }

    private static int wrongWays(int n, int square) {
        if (!in(n, 0, 20)) {
            return n < 0 ? -4 : -6;
        }
        return in(square, 0, 35) ? 0 : -1;
    }

    long ways(int n, int square) {
        int wrong = wrongWays(n, square);
        return wrong < 0 ? noLong(wrong) : waysOf(n)[square].longValueExact();
    }

    long likely(int n, int square, int part) {
        int wrong = wrongWays(n, square);
        if (wrong < 0) {
            return noLong(wrong);
        }
        if (!in(part, 0, 1)) {
            return noLong(-2);
        }
        BigInteger[] ways = waysOf(n);
        BigInteger all = Arrays.stream(ways).reduce(BigInteger.ZERO, BigInteger::add);
        BigInteger common = all.gcd(ways[square]);
        return (part == 0 ? ways[square] : all).divide(common).longValueExact();
    }

    int likeliest(int n) {
        int wrong = wrongWays(n, 0);
        if (wrong < 0) {
            return no(wrong);
        }
        BigInteger[] ways = waysOf(n);
        int best = 35;
        for (int square = 34; square >= 0; square--) {
            best = ways[square].compareTo(ways[best]) >= 0 ? square : best;
        }
        return best;
    }

    /** Where she comes to from a square, up and down by rows, left and right by columns. */
    private int onto(int square, int rows, int columns) {
        int toRow = square / 6 + rows;
        int toColumn = square % 6 + columns;
        boolean can = in(toRow, 0, 5) && in(toColumn, 0, 5) && kinds[6 * toRow + toColumn] != 'h';
        return can && kinds[square] != 'r' ? 6 * toRow + toColumn : square;
    }

    int turning(int facing, int n) {
        if (!in(facing, 0, 3)) {
            return no(-2);
        }
        if (!in(n, 0, 99)) {
            return no(n < 0 ? -4 : -6);
        }
        int[] rows = {-1, 0, 1, 0};
        int[] columns = {0, -1, 0, 1};
        int at = home;
        int face = facing;
        for (int step = 0; step < n; step++) {
            int to = onto(at, rows[face], columns[face]);
            face = to == at ? (face + 1) % 4 : face;
            at = to;
        }
        return at;
    }

    int lots(int n, int z) {
        if (!in(n, 1, 20)) {
            return no(n < 1 ? -4 : -6);
        }
        int[] rows = {-1, 0, 0, 1};
        int[] columns = {0, -1, 1, 0};
        long seed = z & 0xffffffffL;
        int outs = 0;
        for (int walk = 0; walk < n; walk++) {
            int at = home;
            for (int step = 0; step < 30; step++) {
                seed = (seed * 1664525L + 1013904223L) % (1L << 32);
                int draw = (int) (seed % (1L << 31) / 256 % 4);
                at = onto(at, rows[draw], columns[draw]);
            }
            outs += kinds[at] == 'r' ? 1 : 0;
        }
        return outs;
    }

    // The row

    private int firstWrong(int from) {
        int at = from;
        int minute = 0;
        for (int i = 0; i < row.size(); i += 2) {
            int steps = stepsFrom(at, Set.of())[row.get(i)];
            if (steps < 0 || minute + steps * pace > row.get(i + 1)) {
                return i / 2;
            }
            at = row.get(i);
            minute = row.get(i + 1);
        }
        return -9;
    }

    int finds(int what) {
        if (!in(what, 0, 2)) {
            return no(-2);
        }
        if (row.size() % 2 == 1) {
            return no(-3);
        }
        for (int i = 0; i < row.size(); i += 2) {
            if (row.get(i) > 35) {
                return no(-3);
            }
        }
        if (what == 0) {
            return firstWrong(home);
        }
        TreeSet<Integer> homes = new TreeSet<>();
        for (int square = 0; square < 36; square++) {
            if (kinds[square] != 'h' && firstWrong(square) == -9) {
                homes.add(square);
            }
        }
        return what == 1 ? homes.size() : homes.isEmpty() ? -9 : homes.first();
    }

    int row(int v) {
        if (v < 0) {
            return no(-4);
        }
        if (v > 99 || row.size() == 12) {
            return no(-6);
        }
        row.add(v);
        return row.size();
    }

    int judge(int t) {
        if (!in(t, 0, 999)) {
            return no(t < 0 ? -4 : -6);
        }
        Set<Integer> set = setAt(t);
        for (int i = 0; i < row.size(); i++) {
            if (!set.contains(row.get(i))) {
                return i;
            }
            look(set, row.get(i), t + i + 1);
        }
        return -9;
    }

    int behind(int t) {
        if (!in(t, 0, 999)) {
            return no(t < 0 ? -4 : -6);
        }
        Set<Integer> set = setAt(t);
        for (int i = 0; i < row.size(); i++) {
            look(set, row.get(i), t + i + 1);
        }
        row.clear();
        return set.size();
    }

    int image() {
        image = new PlainModel();
        image.takeOver(this);
        return home;
    }

    int on() {
        if (image == null) {
            return no(-3);
        }
        takeOver(image);
        return home;
    }

    int count(int what) {
        switch (what) {
            case 0: return home;
            case 1: return pace;
            case 2: return warm;
            case 3: return seekers.size();
            case 4: return ofKind('h').size();
            case 5: return ofKind('g').size();
            case 6: return ofKind('r').size();
            case 7: return row.size();
            case 8: return letters.length();
            default: return in(what, 11, 16) ? refusals[what - 10] : -9;
        }
    }
}
