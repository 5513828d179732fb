import java.util.ArrayList;
import java.util.List;
import java.util.regex.Matcher;
import java.util.regex.Pattern;

/** What the document says, done in the most literal way, to be held against BitDesk. */
final class SlowDesk {
    private static final int NONE = -1;
    private static final String[] KINDS = {"unit", "ones", "ring", "lower"};
    private static final Pattern TOKEN = Pattern.compile("[a-z]+|[0-9]+|[^ ]", Pattern.DOTALL);

    private static final class Everything {
        int n = 8;
        int block = 4;
        boolean[][][] bits = new boolean[6][8][8];
        boolean[] isKept = new boolean[6];
        int[][] numbers = new int[6][3];
        int[] work = new int[2];

        Everything copied() {
            Everything other = new Everything();
            other.n = n;
            other.block = block;
            other.bits = new boolean[6][][];
            for (int slot = 0; slot < 6; slot++) {
                other.bits[slot] = copyOf(bits[slot]);
                other.numbers[slot] = numbers[slot].clone();
            }
            other.isKept = isKept.clone();
            other.work = work.clone();
            return other;
        }
    }

    private static final class Mistake extends RuntimeException {
        private static final long serialVersionUID = 1;
        final int kind;
        final int position;
        final int statement;

        Mistake(int kind, int position, int statement) {
            this.kind = kind;
            this.position = position;
            this.statement = statement;
        }
    }

    private Everything all = new Everything();
    private String buffer = "";
    private String output = "";
    private int error = 0;
    private int errorStatement = NONE;
    private List<Everything> past = new ArrayList<>();
    private final Everything[] saved = new Everything[2];

    public int append(long bytes) {
        String more = "";
        for (int i = 7; i >= 0; i--) {
            char c = (char) (bytes >> 8 * i & 255);
            more += c == 0 ? "" : String.valueOf(c);
        }
        if (buffer.length() + more.length() > 600) {
            return -2;
        }
        buffer += more;
        return buffer.length();
    }

    public int load() {
        String text = buffer;
        buffer = "";
        try {
            all = described(text);
            error = 0;
            errorStatement = NONE;
            past = new ArrayList<>();
            output = "";
            return all.n;
        } catch (Mistake mistake) {
            error = mistake.kind;
            errorStatement = mistake.statement;
            return -100 - mistake.position;
        }
    }

    /** Reads tokens, each with its position; the text's end is an empty token. */
    private static Everything described(String text) {
        List<String> tokens = new ArrayList<>();
        List<Integer> places = new ArrayList<>();
        Matcher matcher = TOKEN.matcher(text);
        while (matcher.find()) {
            tokens.add(matcher.group());
            places.add(matcher.start());
        }
        tokens.add("");
        places.add(text.length());
        Everything made = new Everything();
        int at = 0;
        for (int statement = 0;; statement++) {
            String verb = tokens.get(at);
            List<String> form = form(verb, statement == 0);
            if (form == null) {
                throw new Mistake(1, places.get(at), statement);
            }
            int[] values = new int[4];
            String last = "";
            for (int i = 0; i < form.size(); i++) {
                last = tokens.get(at + 1 + i);
                values[i] = value(made, form.get(i), last, places.get(at + 1 + i), statement);
            }
            act(made, verb, values, last);
            at += 1 + form.size();
            if (tokens.get(at).isEmpty()) {
                break;
            }
            if (!tokens.get(at).equals(";")) {
                throw new Mistake(1, places.get(at), statement);
            }
            at++;
        }
        for (int slot = 0; slot < 6; slot++) {
            if (made.isKept[slot]) {
                made.numbers[slot] = new int[] {made.n, made.n, 1};
            }
        }
        return made;
    }

    private static List<String> form(String verb, boolean isFirst) {
        switch (verb) {
            case "size":
                return isFirst ? List.of("size") : null;
            case "edge":
                return isFirst ? null : List.of("slot", "node", "node");
            case "row":
                return isFirst ? null : List.of("slot", "node", "bits");
            case "fill":
                return isFirst ? null : List.of("slot", "kind");
            case "keep":
                return isFirst ? null : List.of("kept");
            case "block":
                return isFirst ? null : List.of("block");
            default:
                return null;
        }
    }

    private static int value(Everything made, String what, String token, int place, int statement) {
        if (what.equals("kind")) {
            if (!List.of(KINDS).contains(token)) {
                throw new Mistake(1, place, statement);
            }
            return 0;
        }
        if (!token.matches("[0-9]+")) {
            throw new Mistake(1, place, statement);
        }
        if (what.equals("bits")) {
            if (!token.matches("[01]{" + made.n + "}")) {
                throw new Mistake(2, place, statement);
            }
            return 0;
        }
        java.math.BigInteger number = new java.math.BigInteger(token);
        int most = what.equals("size") ? 32 : what.equals("node") ? made.n - 1 : what.equals("block") ? 8 : 5;
        int least = what.equals("size") || what.equals("block") ? 1 : 0;
        if (number.bitLength() > 20 || number.intValue() > most || number.intValue() < least) {
            throw new Mistake(2, place, statement);
        }
        if (what.equals("kept") && made.isKept[number.intValue()]) {
            throw new Mistake(3, place, statement);
        }
        return number.intValue();
    }

    private static void act(Everything made, String verb, int[] values, String last) {
        switch (verb) {
            case "size":
                made.n = values[0];
                made.bits = new boolean[6][made.n][made.n];
                break;
            case "edge":
                made.bits[values[0]][values[1]][values[2]] = true;
                break;
            case "row":
                for (int c = 0; c < made.n; c++) {
                    made.bits[values[0]][values[1]][c] = last.charAt(c) == '1';
                }
                break;
            case "fill":
                for (int r = 0; r < made.n; r++) {
                    for (int c = 0; c < made.n; c++) {
                        made.bits[values[0]][r][c] = last.equals("unit") && r == c || last.equals("ones")
                            || last.equals("ring") && (r + 1) % made.n == c || last.equals("lower") && c < r;
                    }
                }
                break;
            case "keep":
                made.isKept[values[0]] = true;
                break;
            default:
                made.block = values[0];
        }
    }

    public int loadError() {
        return error;
    }

    public int loadStatement() {
        return errorStatement;
    }

    public int count(int what) {
        argument(what >= 0 && what <= 3);
        int kept = 0;
        for (boolean is : all.isKept) {
            kept += is ? 1 : 0;
        }
        return new int[] {all.n, all.block, kept, past.size()}[what];
    }

    public int bit(int slot, int row, int column) {
        index(slot, row, column);
        return all.bits[slot][row][column] ? 1 : 0;
    }

    public long row(int slot, int row) {
        index(slot, row);
        long sum = 0;
        for (int c = 0; c < all.n; c++) {
            sum += all.bits[slot][row][c] ? 1L << c : 0;
        }
        return sum;
    }

    public int rank(int slot, int row, int column) {
        index(slot, row);
        argument(column >= 0 && column <= all.n);
        int number = 0;
        for (int c = 0; c < column; c++) {
            number += bit(slot, row, c);
        }
        return number;
    }

    public int select(int slot, int row, int index) {
        index(slot, row);
        for (int c = 0; c < all.n; c++) {
            if (bit(slot, row, c) == 1 && rank(slot, row, c) == index) {
                return c;
            }
        }
        return NONE;
    }

    public int ones(int slot) {
        index(slot);
        return sum(all.bits[slot]);
    }

    public int columnOnes(int slot, int column) {
        index(slot, column);
        int number = 0;
        for (int r = 0; r < all.n; r++) {
            number += bit(slot, r, column);
        }
        return number;
    }

    public int sameAs(int slot, int row) {
        index(slot, row);
        return find(slot, row(slot, row));
    }

    public int classes(int slot) {
        index(slot);
        return classRows(slot).size();
    }

    public int classOf(int slot, int row) {
        index(slot, row);
        return classRows(slot).indexOf(row(slot, row));
    }

    private List<Long> classRows(int slot) {
        List<Long> rows = new ArrayList<>();
        for (int r = 0; r < all.n; r++) {
            if (!rows.contains(row(slot, r))) {
                rows.add(row(slot, r));
            }
        }
        return rows;
    }

    public int find(int slot, long bits) {
        index(slot);
        for (int r = 0; r < all.n; r++) {
            if (row(slot, r) == bits % (1L << all.n) || row(slot, r) - (1L << all.n) == bits % (1L << all.n)) {
                return r;
            }
        }
        return NONE;
    }

    public int nearest(int slot, int row) {
        index(slot, row);
        for (int differ = 0; differ <= all.n; differ++) {
            for (int r = 0; r < all.n; r++) {
                if (r != row && Long.bitCount(row(slot, r) ^ row(slot, row)) == differ) {
                    return r;
                }
            }
        }
        return NONE;
    }

    public double density(int slot) {
        return (double) ones(slot) / (double) (all.n * all.n);
    }

    public boolean isSymmetric(int slot) {
        index(slot);
        return same(all.bits[slot], transposed(all.bits[slot]));
    }

    public int reaches(int slot, int a, int b) {
        index(slot, a, b);
        return closure(all.bits[slot])[a][b] ? 1 : 0;
    }

    public int reached(int slot, int a) {
        index(slot, a);
        int number = 0;
        for (int b = 0; b < all.n; b++) {
            number += reaches(slot, a, b);
        }
        return number;
    }

    public int pairs(int slot) {
        index(slot);
        return sum(closure(all.bits[slot]));
    }

    public float meanReach(int slot) {
        return (float) pairs(slot) / (float) all.n;
    }

    public int component(int slot, int a) {
        index(slot, a);
        boolean[][] closure = closure(all.bits[slot]);
        for (int b = 0; b < a; b++) {
            if (closure[a][b] && closure[b][a]) {
                return b;
            }
        }
        return a;
    }

    public int components(int slot) {
        index(slot);
        List<Integer> found = new ArrayList<>();
        for (int a = 0; a < all.n; a++) {
            if (!found.contains(component(slot, a))) {
                found.add(component(slot, a));
            }
        }
        return found.size();
    }

    public int distance(int slot, int a, int b) {
        index(slot, a, b);
        return a == b ? 0 : walk(slot, a, b);
    }

    /** The fewest edges, one or more, by powers of the matrix. */
    private int walk(int slot, int a, int b) {
        boolean[] at = new boolean[all.n];
        at[a] = true;
        for (int edges = 1; edges <= all.n; edges++) {
            boolean[] next = new boolean[all.n];
            for (int from = 0; from < all.n; from++) {
                for (int to = 0; to < all.n; to++) {
                    next[to] |= at[from] && all.bits[slot][from][to];
                }
            }
            if (next[b]) {
                return edges;
            }
            at = next;
        }
        return NONE;
    }

    public int stepAt(int slot, int a, int b, int index) {
        index(slot, a, b);
        int left = distance(slot, a, b);
        if (left == NONE || index < 0 || index > left) {
            return NONE;
        }
        int node = a;
        for (int step = 0; step < index; step++) {
            left--;
            int next = 0;
            while (!all.bits[slot][node][next] || distance(slot, next, b) != left) {
                next++;
            }
            node = next;
        }
        return node;
    }

    public int around(int slot, int a) {
        index(slot, a);
        return walk(slot, a, a);
    }

    public int girth(int slot) {
        index(slot);
        int least = NONE;
        for (int a = 0; a < all.n; a++) {
            int edges = around(slot, a);
            least = edges == NONE ? least : least == NONE ? edges : Math.min(least, edges);
        }
        return least;
    }

    public int order(int slot, int index) {
        index(slot);
        List<Integer> left = new ArrayList<>();
        for (int a = 0; a < all.n; a++) {
            left.add(a);
        }
        for (int place = 0; place <= index && !left.isEmpty(); place++) {
            Integer next = null;
            for (Integer b : left) {
                boolean isFree = true;
                for (Integer a : left) {
                    isFree &= !all.bits[slot][a][b];
                }
                next = next == null && isFree ? b : next;
            }
            if (next == null) {
                return NONE;
            }
            if (place == index) {
                return next;
            }
            left.remove(next);
        }
        return NONE;
    }

    public int gained(int slot, int a, int b) {
        index(slot, a, b);
        return sum(closure(with(all.bits[slot], a, b, true))) - pairs(slot);
    }

    public int lost(int slot, int a, int b) {
        index(slot, a, b);
        return all.bits[slot][a][b] ? pairs(slot) - sum(closure(with(all.bits[slot], a, b, false))) : NONE;
    }

    public int bestEdge(int slot) {
        index(slot);
        int best = NONE;
        for (int edge = 0; edge < 32 * 32; edge++) {
            if (edge / 32 < all.n && edge % 32 < all.n && !all.bits[slot][edge / 32][edge % 32]
                && (best == NONE || gained(slot, edge / 32, edge % 32) > gained(slot, best / 32, best % 32))) {
                best = edge;
            }
        }
        return best;
    }

    public int weakest(int slot) {
        index(slot);
        int best = NONE;
        for (int edge = 0; edge < 32 * 32; edge++) {
            if (edge / 32 < all.n && edge % 32 < all.n && all.bits[slot][edge / 32][edge % 32]
                && (best == NONE || lost(slot, edge / 32, edge % 32) > lost(slot, best / 32, best % 32))) {
                best = edge;
            }
        }
        return best;
    }

    public int triangles(int slot) {
        index(slot);
        boolean[][] m = all.bits[slot];
        int number = 0;
        for (int a = 0; a < all.n; a++) {
            for (int b = 0; b < all.n; b++) {
                for (int c = 0; c < all.n; c++) {
                    number += a != b && b != c && c != a && m[a][b] && m[b][c] && m[c][a] ? 1 : 0;
                }
            }
        }
        return number;
    }

    public int fieldRank(int slot) {
        index(slot);
        return pivots(slot).size();
    }

    private long column(int slot, int column) {
        long sum = 0;
        for (int r = 0; r < all.n; r++) {
            sum += (long) bit(slot, r, column) << r;
        }
        return sum;
    }

    private List<Integer> pivots(int slot) {
        List<Integer> pivots = new ArrayList<>();
        for (int c = 0; c < all.n; c++) {
            if (asSum(slot, pivots, column(slot, c)) == NONE) {
                pivots.add(c);
            }
        }
        return pivots;
    }

    /** Which of the columns, none of them a sum of others, add up to the wanted one, as a set of bits. */
    private long asSum(int slot, List<Integer> columns, long wanted) {
        long[] basis = new long[all.n];
        long[] made = new long[all.n];
        for (int c : columns) {
            long rest = column(slot, c);
            long set = 1L << c;
            for (int r = 0; r < all.n; r++) {
                if ((rest >> r & 1) == 1 && basis[r] != 0) {
                    rest ^= basis[r];
                    set ^= made[r];
                } else if ((rest >> r & 1) == 1) {
                    basis[r] = rest;
                    made[r] = set;
                    break;
                }
            }
        }
        long set = 0;
        for (int r = 0; r < all.n; r++) {
            if ((wanted >> r & 1) == 1) {
                wanted ^= basis[r];
                set ^= made[r];
            }
        }
        return wanted == 0 ? set : NONE;
    }

    public long solve(int slot, long right) {
        index(slot);
        return asSum(slot, pivots(slot), right & (1L << all.n) - 1);
    }

    public int freedom(int slot, long right) {
        return solve(slot, right) == NONE ? NONE : all.n - fieldRank(slot);
    }

    public int pivot(int slot, int index) {
        index(slot);
        List<Integer> pivots = pivots(slot);
        return index < 0 || index >= pivots.size() ? NONE : pivots.get(index);
    }

    public int put(int slot, int row, int column, boolean bit) {
        index(slot, row, column);
        remember();
        boolean[][] before = closure(all.bits[slot]);
        int looked = 0;
        if (all.bits[slot][row][column] != bit) {
            for (int a = 0; a < all.n; a++) {
                looked += a == row || before[a][row] ? 1 : 0;
            }
        }
        all.bits[slot][row][column] = bit;
        if (all.isKept[slot]) {
            all.numbers[slot][0] = looked;
            all.numbers[slot][1] += looked;
        }
        return Math.abs(pairs(slot) - sum(before));
    }

    public int setRow(int slot, int row, long bits) {
        index(slot, row);
        remember();
        long before = row(slot, row);
        for (int c = 0; c < all.n; c++) {
            all.bits[slot][row][c] = (bits >> c & 1) == 1;
        }
        anew(slot);
        return Long.bitCount(before ^ row(slot, row));
    }

    public int copy(int slot, int to) {
        index(slot);
        index(to);
        remember();
        return become(to, copyOf(all.bits[slot]));
    }

    public int transpose(int slot, int to) {
        index(slot);
        index(to);
        remember();
        return become(to, transposed(all.bits[slot]));
    }

    public int combine(int a, int b, int to, int how) {
        index(a);
        index(b);
        index(to);
        argument(how >= 0 && how <= 3);
        remember();
        boolean[][] made = new boolean[all.n][all.n];
        for (int r = 0; r < all.n; r++) {
            for (int c = 0; c < all.n; c++) {
                boolean one = all.bits[a][r][c];
                boolean other = all.bits[b][r][c];
                made[r][c] = how == 0 ? one && other : how == 1 ? one || other : how == 2 ? one != other : one && !other;
            }
        }
        return become(to, made);
    }

    public int product(int a, int b, int to, boolean isField) {
        index(a);
        index(b);
        index(to);
        remember();
        return become(to, times(all.bits[a], all.bits[b], isField));
    }

    public int power(int slot, int exponent, int to, boolean isField) {
        index(slot);
        index(to);
        argument(exponent >= 0 && exponent <= 1000000);
        remember();
        boolean[][] power = unit();
        String signs = exponent == 0 ? "" : Integer.toBinaryString(exponent);
        for (char sign : signs.toCharArray()) {
            power = times(power, power, isField);
            power = sign == '1' ? times(power, all.bits[slot], isField) : power;
        }
        return become(to, power);
    }

    private boolean[][] times(boolean[][] a, boolean[][] b, boolean isField) {
        boolean[][] made = new boolean[all.n][all.n];
        for (int r = 0; r < all.n; r++) {
            for (int c = 0; c < all.n; c++) {
                int number = 0;
                for (int k = 0; k < all.n; k++) {
                    number += a[r][k] && b[k][c] ? 1 : 0;
                }
                made[r][c] = isField ? number % 2 == 1 : number > 0;
            }
        }
        all.work = new int[2];
        for (int first = 0; first < all.n; first += all.block) {
            int next = Math.min(first + all.block, all.n);
            all.work[0] += (int) Math.round(Math.pow(2, next - first)) - 1;
            for (int r = 0; r < all.n; r++) {
                boolean hasOne = false;
                for (int c = first; c < next; c++) {
                    hasOne |= a[r][c];
                }
                all.work[1] += hasOne ? 1 : 0;
            }
        }
        return made;
    }

    public int invert(int slot, int to) {
        index(slot);
        index(to);
        if (fieldRank(slot) < all.n) {
            return -3;
        }
        boolean[][] made = new boolean[all.n][all.n];
        for (int c = 0; c < all.n; c++) {
            long column = solve(slot, 1L << c);
            for (int r = 0; r < all.n; r++) {
                made[r][c] = (column >> r & 1) == 1;
            }
        }
        remember();
        return become(to, made);
    }

    public int close(int slot, int to) {
        index(slot);
        index(to);
        remember();
        return become(to, closure(all.bits[slot]));
    }

    public int reduce(int slot, int to) {
        index(slot);
        index(to);
        remember();
        boolean[][] left = copyOf(all.bits[slot]);
        for (int r = 0; r < all.n; r++) {
            for (int c = 0; c < all.n; c++) {
                boolean[][] without = with(left, r, c, false);
                left = same(closure(without), closure(left)) ? without : left;
            }
        }
        return become(to, left);
    }

    public int exchange(int slot, int a, int b) {
        index(slot, a, b);
        remember();
        int changed = 0;
        boolean[][] made = new boolean[all.n][all.n];
        for (int r = 0; r < all.n; r++) {
            for (int c = 0; c < all.n; c++) {
                made[r == a ? b : r == b ? a : r][c == a ? b : c == b ? a : c] = all.bits[slot][r][c];
            }
        }
        for (int r = 0; r < all.n; r++) {
            for (int c = 0; c < all.n; c++) {
                changed += made[r][c] != all.bits[slot][r][c] ? 1 : 0;
            }
        }
        become(slot, made);
        return changed;
    }

    public int keep(int slot, boolean kept) {
        index(slot);
        remember();
        all.isKept[slot] = kept;
        anew(slot);
        return count(2);
    }

    public int setBlock(int block) {
        argument(block >= 1 && block <= 8);
        remember();
        int before = all.block;
        all.block = block;
        return before;
    }

    public int kept(int slot, int what) {
        index(slot);
        argument(what >= 0 && what <= 2);
        return all.isKept[slot] ? all.numbers[slot][what] : NONE;
    }

    public int work(int what) {
        argument(what >= 0 && what <= 1);
        return all.work[what];
    }

    public int writeRow(int slot, int row) {
        index(slot, row);
        output = "";
        for (int c = 0; c < all.n; c++) {
            output += bit(slot, row, c);
        }
        return output.length();
    }

    public int outputByte(int index) {
        return index < 0 || index >= output.length() ? NONE : output.charAt(index);
    }

    public int undo() {
        if (past.isEmpty()) {
            return NONE;
        }
        all = past.remove(past.size() - 1);
        return past.size();
    }

    public int saveSnapshot(int place) {
        argument(place == 0 || place == 1);
        saved[place] = all.copied();
        return all.n;
    }

    public int restoreSnapshot(int place) {
        argument(place == 0 || place == 1);
        if (saved[place] == null) {
            return NONE;
        }
        all = saved[place].copied();
        past = new ArrayList<>();
        return all.n;
    }

    private void index(int slot, int... nodes) {
        boolean isThere = slot >= 0 && slot <= 5;
        for (int node : nodes) {
            isThere &= node >= 0 && node < all.n;
        }
        if (!isThere) {
            throw new IndexOutOfBoundsException();
        }
    }

    private static void argument(boolean isInRange) {
        if (!isInRange) {
            throw new IllegalArgumentException();
        }
    }

    private void remember() {
        past.add(all.copied());
        if (past.size() > 8) {
            past.remove(0);
        }
    }

    private int become(int to, boolean[][] made) {
        all.bits[to] = made;
        anew(to);
        return ones(to);
    }

    private void anew(int slot) {
        if (all.isKept[slot]) {
            all.numbers[slot][0] = all.n;
            all.numbers[slot][1] += all.n;
            all.numbers[slot][2]++;
        }
    }

    private boolean[][] unit() {
        boolean[][] made = new boolean[all.n][all.n];
        for (int r = 0; r < all.n; r++) {
            made[r][r] = true;
        }
        return made;
    }

    private static boolean[][] copyOf(boolean[][] m) {
        boolean[][] made = new boolean[m.length][];
        for (int r = 0; r < m.length; r++) {
            made[r] = m[r].clone();
        }
        return made;
    }

    private static boolean[][] with(boolean[][] m, int row, int column, boolean bit) {
        boolean[][] made = copyOf(m);
        made[row][column] = bit;
        return made;
    }

    private static boolean[][] transposed(boolean[][] m) {
        boolean[][] made = new boolean[m.length][m.length];
        for (int r = 0; r < m.length; r++) {
            for (int c = 0; c < m.length; c++) {
                made[c][r] = m[r][c];
            }
        }
        return made;
    }

    private static boolean same(boolean[][] one, boolean[][] other) {
        return java.util.Arrays.deepEquals(one, other);
    }

    private static int sum(boolean[][] m) {
        int number = 0;
        for (boolean[] row : m) {
            for (boolean bit : row) {
                number += bit ? 1 : 0;
            }
        }
        return number;
    }

    /** Each node goes along edges as long as a node is new; no sharing between nodes. */
    private static boolean[][] closure(boolean[][] m) {
        int n = m.length;
        boolean[][] made = new boolean[n][n];
        int[] queue = new int[n];
        for (int a = 0; a < n; a++) {
            int last = 0;
            for (int next = -1; next < last; next++) {
                boolean[] from = next < 0 ? m[a] : m[queue[next]];
                for (int b = 0; b < n; b++) {
                    if (from[b] && !made[a][b]) {
                        made[a][b] = true;
                        queue[last++] = b;
                    }
                }
            }
        }
        return made;
    }
}
