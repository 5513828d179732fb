/** Six matrices of bits, their closures, and what lies over the field of two elements. */
public final class BitDesk {
    public static final int NONE = -1;
    public static final int FULL = -2;
    public static final int SINGULAR = -3;
    public static final long NO_VALUE = -1L;

    private static final int SLOTS = 6;
    private static final int MOST_NODES = 32;
    private static final int USUAL_SIZE = 8;
    private static final int MOST_BLOCK = 8;
    private static final int USUAL_BLOCK = 4;
    private static final int MOST_BYTES = 600;
    private static final int MOST_PAST = 8;
    private static final int PLACES = 2;
    private static final int MOST_EXPONENT = 1000000;
    private static final int ERROR_BASE = -100;

    private final Reader reader;
    private final State state;
    private final State described;
    private final State[] past;
    private int pastNext;
    private int pastCount;
    private final State[] snapshots;
    private final boolean[] isSaved;
    private final Closure[] closures;
    private final Multiplier multiplier;
    private final Elimination elimination;
    private final int[] made;
    private final int[] levels;
    private final int[] output;
    private int outputLength;

    // All that any call needs is made here, so that no later call makes an object.
    public BitDesk() {
        reader = new Reader();
        state = new State();
        described = new State();
        past = new State[MOST_PAST];
        for (int i = 0; i < MOST_PAST; i++) {
            past[i] = new State();
        }
        snapshots = new State[PLACES];
        for (int i = 0; i < PLACES; i++) {
            snapshots[i] = new State();
        }
        isSaved = new boolean[PLACES];
        closures = new Closure[SLOTS];
        for (int i = 0; i < SLOTS; i++) {
            closures[i] = new Closure();
        }
        multiplier = new Multiplier();
        elimination = new Elimination();
        made = new int[MOST_NODES];
        levels = new int[MOST_NODES];
        output = new int[MOST_NODES];
    }

    public int append(long bytes) {
        return reader.addBytes(bytes);
    }

    public int load() {
        reader.readInto(described);
        if (reader.error != 0) {
            return ERROR_BASE - reader.errorPosition;
        }
        replaceState(described);
        outputLength = 0;
        return state.size;
    }

    public int loadError() {
        return reader.error;
    }

    public int loadStatement() {
        return reader.error == 0 ? NONE : reader.statement;
    }

    public int count(int what) throws IllegalArgumentException {
        needRange(what, 0, 3);
        switch (what) {
            case 0:
                return state.size;
            case 1:
                return state.block;
            case 2:
                return keptSlots();
            default:
                return pastCount;
        }
    }

    public int bit(int slot, int row, int column) throws IndexOutOfBoundsException {
        needCell(slot, row, column);
        return hasOne(rowsOf(slot)[row], column) ? 1 : 0;
    }

    public long row(int slot, int row) throws IndexOutOfBoundsException {
        needRow(slot, row);
        return unsigned(rowsOf(slot)[row]);
    }

    public int rank(int slot, int row, int column) throws IndexOutOfBoundsException, IllegalArgumentException {
        needRow(slot, row);
        needRange(column, 0, state.size);
        return Integer.bitCount(rowsOf(slot)[row] & lowest(column));
    }

    public int select(int slot, int row, int index) throws IndexOutOfBoundsException {
        needRow(slot, row);
        return oneAt(rowsOf(slot)[row], index);
    }

    public int ones(int slot) throws IndexOutOfBoundsException {
        needSlot(slot);
        return onesOf(rowsOf(slot), state.size);
    }

    public int columnOnes(int slot, int column) throws IndexOutOfBoundsException {
        needRow(slot, column);
        return Integer.bitCount(columnOf(rowsOf(slot), column, state.size));
    }

    public int sameAs(int slot, int row) throws IndexOutOfBoundsException {
        needRow(slot, row);
        return firstEqual(rowsOf(slot), rowsOf(slot)[row]);
    }

    public int classes(int slot) throws IndexOutOfBoundsException {
        needSlot(slot);
        return firstRows(rowsOf(slot), state.size);
    }

    public int classOf(int slot, int row) throws IndexOutOfBoundsException {
        needRow(slot, row);
        int[] rows = rowsOf(slot);
        return firstRows(rows, firstEqual(rows, rows[row]));
    }

    public int find(int slot, long bits) throws IndexOutOfBoundsException {
        needSlot(slot);
        return firstEqual(rowsOf(slot), (int) bits & lowest(state.size));
    }

    public int nearest(int slot, int row) throws IndexOutOfBoundsException {
        needRow(slot, row);
        int[] rows = rowsOf(slot);
        int best = NONE;
        int fewest = MOST_NODES + 1;
        for (int other = 0; other < state.size; other++) {
            int unlike = Integer.bitCount(rows[other] ^ rows[row]);
            if (other != row && unlike < fewest) {
                best = other;
                fewest = unlike;
            }
        }
        return best;
    }

    public double density(int slot) throws IndexOutOfBoundsException {
        return (double) ones(slot) / (double) (state.size * state.size);
    }

    public boolean isSymmetric(int slot) throws IndexOutOfBoundsException {
        needSlot(slot);
        int[] rows = rowsOf(slot);
        for (int node = 0; node < state.size; node++) {
            if (rows[node] != columnOf(rows, node, state.size)) {
                return false;
            }
        }
        return true;
    }

    public int reaches(int slot, int a, int b) throws IndexOutOfBoundsException {
        needCell(slot, a, b);
        return hasOne(closureOf(slot).reach[a], b) ? 1 : 0;
    }

    public int reached(int slot, int a) throws IndexOutOfBoundsException {
        needRow(slot, a);
        return Integer.bitCount(closureOf(slot).reach[a]);
    }

    public int pairs(int slot) throws IndexOutOfBoundsException {
        needSlot(slot);
        return onesOf(closureOf(slot).reach, state.size);
    }

    public float meanReach(int slot) throws IndexOutOfBoundsException {
        return (float) pairs(slot) / (float) state.size;
    }

    public int component(int slot, int a) throws IndexOutOfBoundsException {
        needRow(slot, a);
        return closureOf(slot).lowestMutual(a, state.size);
    }

    public int components(int slot) throws IndexOutOfBoundsException {
        needSlot(slot);
        Closure closure = closureOf(slot);
        int number = 0;
        for (int node = 0; node < state.size; node++) {
            if (closure.lowestMutual(node, state.size) == node) {
                number++;
            }
        }
        return number;
    }

    public int distance(int slot, int a, int b) throws IndexOutOfBoundsException {
        needCell(slot, a, b);
        return a == b ? 0 : fewestEdges(rowsOf(slot), a, b);
    }

    public int stepAt(int slot, int a, int b, int index) throws IndexOutOfBoundsException {
        int edges = distance(slot, a, b);
        if (index < 0 || index > edges) {
            return NONE;
        }
        int[] rows = rowsOf(slot);
        fillLevels(rows, b, edges);
        int node = a;
        for (int left = edges - 1; left >= edges - index; left--) {
            node = lowestOne(rows[node] & levels[left]);
        }
        return node;
    }

    public int around(int slot, int a) throws IndexOutOfBoundsException {
        needRow(slot, a);
        return fewestEdges(rowsOf(slot), a, a);
    }

    public int girth(int slot) throws IndexOutOfBoundsException {
        needSlot(slot);
        int least = NONE;
        for (int node = 0; node < state.size; node++) {
            int edges = fewestEdges(rowsOf(slot), node, node);
            if (edges != NONE && (least == NONE || edges < least)) {
                least = edges;
            }
        }
        return least;
    }

    public int order(int slot, int index) throws IndexOutOfBoundsException {
        needSlot(slot);
        int left = lowest(state.size);
        for (int place = 0; place < state.size; place++) {
            int free = left & ~joinedRows(rowsOf(slot), left);
            if (free == 0) {
                return NONE;
            }
            int node = lowestOne(free);
            if (place == index) {
                return node;
            }
            left &= ~(1 << node);
        }
        return NONE;
    }

    public int gained(int slot, int a, int b) throws IndexOutOfBoundsException {
        needCell(slot, a, b);
        Closure closure = closureOf(slot);
        return closure.gainWith(closure.nodesTo(a, state.size), b, state.size);
    }

    public int lost(int slot, int a, int b) throws IndexOutOfBoundsException {
        needCell(slot, a, b);
        return hasOne(rowsOf(slot)[a], b) ? lossWithout(slot, a, b) : NONE;
    }

    public int bestEdge(int slot) throws IndexOutOfBoundsException {
        needSlot(slot);
        int[] rows = rowsOf(slot);
        Closure closure = closureOf(slot);
        int best = NONE;
        int most = -1;
        for (int a = 0; a < state.size; a++) {
            int nodes = closure.nodesTo(a, state.size);
            for (int b = 0; b < state.size; b++) {
                int gain = hasOne(rows[a], b) ? -1 : closure.gainWith(nodes, b, state.size);
                if (gain > most) {
                    most = gain;
                    best = edgeNumber(a, b);
                }
            }
        }
        return best;
    }

    public int weakest(int slot) throws IndexOutOfBoundsException {
        needSlot(slot);
        int[] rows = rowsOf(slot);
        int best = NONE;
        int most = -1;
        for (int a = 0; a < state.size; a++) {
            for (int b = 0; b < state.size; b++) {
                int loss = hasOne(rows[a], b) ? lossWithout(slot, a, b) : -1;
                if (loss > most) {
                    most = loss;
                    best = edgeNumber(a, b);
                }
            }
        }
        return best;
    }

    public int triangles(int slot) throws IndexOutOfBoundsException {
        needSlot(slot);
        int[] rows = rowsOf(slot);
        int number = 0;
        for (int a = 0; a < state.size; a++) {
            int last = columnOf(rows, a, state.size) & ~(1 << a);
            for (int b = 0; b < state.size; b++) {
                if (a != b && hasOne(rows[a], b)) {
                    number += Integer.bitCount(rows[b] & last & ~(1 << b));
                }
            }
        }
        return number;
    }

    public int fieldRank(int slot) throws IndexOutOfBoundsException {
        needSlot(slot);
        elimination.eliminate(rowsOf(slot), state.size, 0);
        return elimination.pivotCount;
    }

    public long solve(int slot, long right) throws IndexOutOfBoundsException {
        needSlot(slot);
        elimination.eliminate(rowsOf(slot), state.size, (int) right);
        return elimination.isSolvable(state.size) ? unsigned(elimination.solution()) : NO_VALUE;
    }

    public int freedom(int slot, long right) throws IndexOutOfBoundsException {
        needSlot(slot);
        elimination.eliminate(rowsOf(slot), state.size, (int) right);
        return elimination.isSolvable(state.size) ? state.size - elimination.pivotCount : NONE;
    }

    public int pivot(int slot, int index) throws IndexOutOfBoundsException {
        needSlot(slot);
        elimination.eliminate(rowsOf(slot), state.size, 0);
        return elimination.pivotAt(index);
    }

    public int put(int slot, int row, int column, boolean bit) throws IndexOutOfBoundsException {
        needCell(slot, row, column);
        remember();
        Matrix matrix = state.slots[slot];
        if (hasOne(matrix.rows[row], column) == bit) {
            matrix.noteLooked(0);
            return 0;
        }
        Closure closure = closureOf(slot);
        int nodes = closure.nodesTo(row, state.size);
        matrix.noteLooked(Integer.bitCount(nodes));
        matrix.rows[row] ^= 1 << column;
        return bit ? closure.extend(nodes, column, state.size) : closure.mend(nodes, matrix.rows, state.size);
    }

    public int setRow(int slot, int row, long bits) throws IndexOutOfBoundsException {
        needRow(slot, row);
        remember();
        int[] rows = rowsOf(slot);
        int before = rows[row];
        rows[row] = (int) bits & lowest(state.size);
        noteChange(slot);
        return Integer.bitCount(rows[row] ^ before);
    }

    public int copy(int slot, int to) throws IndexOutOfBoundsException {
        needSlot(slot);
        needSlot(to);
        remember();
        return store(rowsOf(slot), to);
    }

    public int transpose(int slot, int to) throws IndexOutOfBoundsException {
        needSlot(slot);
        needSlot(to);
        remember();
        for (int node = 0; node < state.size; node++) {
            made[node] = columnOf(rowsOf(slot), node, state.size);
        }
        return store(made, to);
    }

    public int combine(int a, int b, int to, int how) throws IndexOutOfBoundsException, IllegalArgumentException {
        needSlot(a);
        needSlot(b);
        needSlot(to);
        needRange(how, 0, 3);
        remember();
        for (int row = 0; row < state.size; row++) {
            made[row] = combined(rowsOf(a)[row], rowsOf(b)[row], how);
        }
        return store(made, to);
    }

    public int product(int a, int b, int to, boolean isField) throws IndexOutOfBoundsException {
        needSlot(a);
        needSlot(b);
        needSlot(to);
        remember();
        multiplier.begin(state, isField);
        multiplier.multiply(rowsOf(a), rowsOf(b), made);
        noteWork();
        return store(made, to);
    }

    public int power(int slot, int exponent, int to, boolean isField)
            throws IndexOutOfBoundsException, IllegalArgumentException {
        needSlot(slot);
        needSlot(to);
        needRange(exponent, 0, MOST_EXPONENT);
        remember();
        multiplier.begin(state, isField);
        int[] result = multiplier.raise(rowsOf(slot), exponent);
        if (exponent > 0) {
            noteWork();
        }
        return store(result, to);
    }

    public int invert(int slot, int to) throws IndexOutOfBoundsException {
        needSlot(slot);
        needSlot(to);
        elimination.eliminateBesideUnit(rowsOf(slot), state.size);
        if (elimination.pivotCount < state.size) {
            return SINGULAR;
        }
        remember();
        return store(elimination.right, to);
    }

    public int close(int slot, int to) throws IndexOutOfBoundsException {
        needSlot(slot);
        needSlot(to);
        remember();
        return store(closureOf(slot).reach, to);
    }

    public int reduce(int slot, int to) throws IndexOutOfBoundsException {
        needSlot(slot);
        needSlot(to);
        remember();
        System.arraycopy(rowsOf(slot), 0, made, 0, state.size);
        for (int a = 0; a < state.size; a++) {
            dropNeedless(made, a);
        }
        return store(made, to);
    }

    public int exchange(int slot, int a, int b) throws IndexOutOfBoundsException {
        needCell(slot, a, b);
        remember();
        int[] rows = rowsOf(slot);
        int changed = 0;
        for (int row = 0; row < state.size; row++) {
            int source = row == a ? b : row == b ? a : row;
            made[row] = exchanged(rows[source], a, b);
            changed += Integer.bitCount(made[row] ^ rows[row]);
        }
        store(made, slot);
        return changed;
    }

    public int keep(int slot, boolean kept) throws IndexOutOfBoundsException {
        needSlot(slot);
        remember();
        Matrix matrix = state.slots[slot];
        matrix.isKept = kept;
        matrix.noteMadeAnew(state.size);
        return keptSlots();
    }

    public int setBlock(int block) throws IllegalArgumentException {
        needRange(block, 1, MOST_BLOCK);
        remember();
        int before = state.block;
        state.block = block;
        return before;
    }

    public int kept(int slot, int what) throws IndexOutOfBoundsException, IllegalArgumentException {
        needSlot(slot);
        needRange(what, 0, 2);
        Matrix matrix = state.slots[slot];
        if (!matrix.isKept) {
            return NONE;
        }
        switch (what) {
            case 0:
                return matrix.lookedLately;
            case 1:
                return matrix.lookedInAll;
            default:
                return matrix.timesMadeAnew;
        }
    }

    public int work(int what) throws IllegalArgumentException {
        needRange(what, 0, 1);
        return what == 0 ? state.entriesMade : state.entriesTaken;
    }

    public int writeRow(int slot, int row) throws IndexOutOfBoundsException {
        needRow(slot, row);
        int bits = rowsOf(slot)[row];
        outputLength = state.size;
        for (int column = 0; column < outputLength; column++) {
            output[column] = hasOne(bits, column) ? '1' : '0';
        }
        return outputLength;
    }

    public int outputByte(int index) {
        return index >= 0 && index < outputLength ? output[index] : NONE;
    }

    public int undo() {
        if (pastCount == 0) {
            return NONE;
        }
        pastCount--;
        pastNext = pastNext == 0 ? MOST_PAST - 1 : pastNext - 1;
        state.takeFrom(past[pastNext]);
        dropClosures();
        return pastCount;
    }

    public int saveSnapshot(int place) throws IllegalArgumentException {
        needRange(place, 0, PLACES - 1);
        snapshots[place].takeFrom(state);
        isSaved[place] = true;
        return state.size;
    }

    public int restoreSnapshot(int place) throws IllegalArgumentException {
        needRange(place, 0, PLACES - 1);
        if (!isSaved[place]) {
            return NONE;
        }
        replaceState(snapshots[place]);
        return state.size;
    }

    private void needSlot(int slot) {
        if (slot < 0 || slot >= SLOTS) {
            throw new IndexOutOfBoundsException("no such slot");
        }
    }

    private void needNode(int node) {
        if (node < 0 || node >= state.size) {
            throw new IndexOutOfBoundsException("no such row, column or node");
        }
    }

    private void needRow(int slot, int row) {
        needSlot(slot);
        needNode(row);
    }

    private void needCell(int slot, int row, int column) {
        needRow(slot, row);
        needNode(column);
    }

    private void needRange(int value, int least, int most) {
        if (value < least || value > most) {
            throw new IllegalArgumentException("out of range");
        }
    }

    private int[] rowsOf(int slot) {
        return state.slots[slot].rows;
    }

    private int keptSlots() {
        int number = 0;
        for (int slot = 0; slot < SLOTS; slot++) {
            if (state.slots[slot].isKept) {
                number++;
            }
        }
        return number;
    }

    private void remember() {
        past[pastNext].takeFrom(state);
        pastNext = pastNext == MOST_PAST - 1 ? 0 : pastNext + 1;
        pastCount = Math.min(pastCount + 1, MOST_PAST);
    }

    private void replaceState(State other) {
        state.takeFrom(other);
        pastCount = 0;
        dropClosures();
    }

    private void dropClosures() {
        for (int slot = 0; slot < SLOTS; slot++) {
            closures[slot].isCurrent = false;
        }
    }

    private Closure closureOf(int slot) {
        Closure closure = closures[slot];
        if (!closure.isCurrent) {
            closure.makeFrom(rowsOf(slot), state.size);
        }
        return closure;
    }

    private int store(int[] rows, int to) {
        System.arraycopy(rows, 0, rowsOf(to), 0, state.size);
        noteChange(to);
        return onesOf(rowsOf(to), state.size);
    }

    private void noteChange(int slot) {
        closures[slot].isCurrent = false;
        state.slots[slot].noteMadeAnew(state.size);
    }

    private void noteWork() {
        state.entriesMade = multiplier.entriesMade;
        state.entriesTaken = multiplier.entriesTaken;
    }

    private int firstEqual(int[] rows, int bits) {
        for (int row = 0; row < state.size; row++) {
            if (rows[row] == bits) {
                return row;
            }
        }
        return NONE;
    }

    private int firstRows(int[] rows, int limit) {
        int number = 0;
        for (int row = 0; row < limit; row++) {
            if (firstEqual(rows, rows[row]) == row) {
                number++;
            }
        }
        return number;
    }

    private int joinedRows(int[] rows, int nodes) {
        int joined = 0;
        for (int node = 0; node < state.size; node++) {
            if (hasOne(nodes, node)) {
                joined |= rows[node];
            }
        }
        return joined;
    }

    private int fewestEdges(int[] rows, int a, int b) {
        int front = rows[a];
        for (int edges = 1; edges <= state.size; edges++) {
            if (hasOne(front, b)) {
                return edges;
            }
            front = joinedRows(rows, front);
        }
        return NONE;
    }

    // A level holds every node with a walk of that many edges, shortest or not: a node that is
    // met on a shortest way has no shorter walk to its end, so no level need leave nodes out.
    private void fillLevels(int[] rows, int end, int edges) {
        levels[0] = 1 << end;
        for (int level = 1; level < edges; level++) {
            int nodes = 0;
            for (int node = 0; node < state.size; node++) {
                if ((rows[node] & levels[level - 1]) != 0) {
                    nodes |= 1 << node;
                }
            }
            levels[level] = nodes;
        }
    }

    private int lossWithout(int slot, int a, int b) {
        System.arraycopy(rowsOf(slot), 0, made, 0, state.size);
        made[a] &= ~(1 << b);
        return closureOf(slot).lossBy(made, a, b, state.size);
    }

    // An edge from a to b can go without a change of the closure exactly if a reaches b without it.
    private void dropNeedless(int[] rows, int a) {
        for (int b = 0; b < state.size; b++) {
            int edges = rows[a];
            if (hasOne(edges, b)) {
                rows[a] = edges & ~(1 << b);
                if (!hasOne(reachedFrom(rows, a, state.size), b)) {
                    rows[a] = edges;
                }
            }
        }
    }

    private static int combined(int first, int second, int how) {
        switch (how) {
            case 0:
                return first & second;
            case 1:
                return first | second;
            case 2:
                return first ^ second;
            default:
                return first & ~second;
        }
    }

    private static int exchanged(int bits, int a, int b) {
        return hasOne(bits, a) == hasOne(bits, b) ? bits : bits ^ (1 << a) ^ (1 << b);
    }

    private static int edgeNumber(int a, int b) {
        return 32 * a + b;
    }

    private static long unsigned(int bits) {
        return bits & 0xFFFFFFFFL;
    }

    private static boolean hasOne(int bits, int column) {
        return (bits >>> column & 1) != 0;
    }

    // A shift by 32 would shift by 0.
    private static int lowest(int columns) {
        return columns == 0 ? 0 : -1 >>> (MOST_NODES - columns);
    }

    // The mask keeps the answer an index, even for a number without ones.
    private static int lowestOne(int bits) {
        return Integer.bitCount((bits & -bits) - 1) & (MOST_NODES - 1);
    }

    private static int oneAt(int bits, int index) {
        int before = 0;
        for (int column = 0; column < MOST_NODES; column++) {
            if (hasOne(bits, column)) {
                if (before == index) {
                    return column;
                }
                before++;
            }
        }
        return NONE;
    }

    private static int onesOf(int[] rows, int size) {
        int number = 0;
        for (int row = 0; row < size; row++) {
            number += Integer.bitCount(rows[row]);
        }
        return number;
    }

    private static int columnOf(int[] rows, int column, int size) {
        int bits = 0;
        for (int row = 0; row < size; row++) {
            bits |= (rows[row] >>> column & 1) << row;
        }
        return bits;
    }

    private static int reachedFrom(int[] rows, int start, int size) {
        int found = rows[start];
        int done = 0;
        for (int step = 0; step < size && found != done; step++) {
            int node = lowestOne(found & ~done);
            found |= rows[node];
            done |= 1 << node;
        }
        return found;
    }

    /** A slot: its matrix and the numbers of its closure. */
    private static final class Matrix {
        private final int[] rows;
        private boolean isKept;
        private int lookedLately;
        private int lookedInAll;
        private int timesMadeAnew;

        Matrix() {
            rows = new int[MOST_NODES];
        }

        void makeEmpty() {
            for (int row = 0; row < MOST_NODES; row++) {
                rows[row] = 0;
            }
            isKept = false;
            lookedLately = 0;
            lookedInAll = 0;
            timesMadeAnew = 0;
        }

        void takeFrom(Matrix other) {
            System.arraycopy(other.rows, 0, rows, 0, MOST_NODES);
            isKept = other.isKept;
            lookedLately = other.lookedLately;
            lookedInAll = other.lookedInAll;
            timesMadeAnew = other.timesMadeAnew;
        }

        void noteLooked(int number) {
            if (isKept) {
                lookedLately = number;
                lookedInAll += number;
            }
        }

        void noteMadeAnew(int size) {
            if (isKept) {
                noteLooked(size);
                timesMadeAnew++;
            }
        }
    }

    /** All that undo and snapshots bring back. */
    private static final class State {
        private final Matrix[] slots;
        private int size;
        private int block;
        private int entriesMade;
        private int entriesTaken;

        State() {
            slots = new Matrix[SLOTS];
            for (int slot = 0; slot < SLOTS; slot++) {
                slots[slot] = new Matrix();
            }
            size = USUAL_SIZE;
            block = USUAL_BLOCK;
        }

        void makeEmpty(int newSize) {
            for (int slot = 0; slot < SLOTS; slot++) {
                slots[slot].makeEmpty();
            }
            size = newSize;
            block = USUAL_BLOCK;
            entriesMade = 0;
            entriesTaken = 0;
        }

        void takeFrom(State other) {
            for (int slot = 0; slot < SLOTS; slot++) {
                slots[slot].takeFrom(other.slots[slot]);
            }
            size = other.size;
            block = other.block;
            entriesMade = other.entriesMade;
            entriesTaken = other.entriesTaken;
        }
    }

    /** The closure of a slot, which need not be current: it is made from the matrix when it is asked for. */
    private static final class Closure {
        private final int[] reach;
        private boolean isCurrent;

        Closure() {
            reach = new int[MOST_NODES];
        }

        void makeFrom(int[] rows, int size) {
            System.arraycopy(rows, 0, reach, 0, size);
            for (int middle = 0; middle < size; middle++) {
                for (int node = 0; node < size; node++) {
                    if (hasOne(reach[node], middle)) {
                        reach[node] |= reach[middle];
                    }
                }
            }
            isCurrent = true;
        }

        // An edge from a to other nodes concerns the rows of these nodes alone.
        int nodesTo(int a, int size) {
            return columnOf(reach, a, size) | 1 << a;
        }

        int lowestMutual(int a, int size) {
            return lowestOne(reach[a] & columnOf(reach, a, size) | 1 << a);
        }

        int gainWith(int nodes, int b, int size) {
            int targets = reach[b] | 1 << b;
            int gain = 0;
            for (int node = 0; node < size; node++) {
                if (hasOne(nodes, node)) {
                    gain += Integer.bitCount(targets & ~reach[node]);
                }
            }
            return gain;
        }

        int extend(int nodes, int b, int size) {
            int gain = gainWith(nodes, b, size);
            int targets = reach[b] | 1 << b;
            for (int node = 0; node < size; node++) {
                if (hasOne(nodes, node)) {
                    reach[node] |= targets;
                }
            }
            return gain;
        }

        int mend(int nodes, int[] rows, int size) {
            int loss = 0;
            for (int node = 0; node < size; node++) {
                if (hasOne(nodes, node)) {
                    int mended = reachedFrom(rows, node, size);
                    loss += Integer.bitCount(reach[node] & ~mended);
                    reach[node] = mended;
                }
            }
            return loss;
        }

        // Most edges of a full matrix are not needed: the first test spares them the rest.
        int lossBy(int[] rowsWithout, int a, int b, int size) {
            if (hasOne(reachedFrom(rowsWithout, a, size), b)) {
                return 0;
            }
            int nodes = nodesTo(a, size);
            int loss = 0;
            for (int node = 0; node < size; node++) {
                if (hasOne(nodes, node)) {
                    loss += Integer.bitCount(reach[node] & ~reachedFrom(rowsWithout, node, size));
                }
            }
            return loss;
        }
    }

    /** Makes products by blocks of columns and counts the work of the latest one. */
    private static final class Multiplier {
        private static final int HIGHEST_BIT = 19;

        private final int[] table;
        private final int[] first;
        private final int[] second;
        private int size;
        private int block;
        private boolean isField;
        private int entriesMade;
        private int entriesTaken;

        Multiplier() {
            table = new int[1 << MOST_BLOCK];
            first = new int[MOST_NODES];
            second = new int[MOST_NODES];
        }

        void begin(State state, boolean isOverField) {
            size = state.size;
            block = state.block;
            isField = isOverField;
        }

        void multiply(int[] a, int[] b, int[] into) {
            entriesMade = 0;
            entriesTaken = 0;
            for (int row = 0; row < size; row++) {
                into[row] = 0;
            }
            for (int start = 0; start < size; start += block) {
                int columns = Math.min(block, size - start);
                fillTable(b, start, columns);
                takeEntries(a, into, start, columns);
            }
        }

        int[] raise(int[] base, int exponent) {
            int[] power = first;
            int[] next = second;
            for (int row = 0; row < size; row++) {
                power[row] = 1 << row;
            }
            for (int bit = HIGHEST_BIT; bit >= 0; bit--) {
                if (exponent >> bit != 0) {
                    multiply(power, power, next);
                    int[] square = next;
                    next = power;
                    power = square;
                }
                if (hasOne(exponent, bit)) {
                    multiply(power, base, next);
                    int[] further = next;
                    next = power;
                    power = further;
                }
            }
            return power;
        }

        // The entry 0 is that of the empty set: it stays 0 from the constructor on.
        private void fillTable(int[] b, int start, int columns) {
            for (int column = 0; column < columns; column++) {
                int half = 1 << column;
                for (int set = 0; set < half; set++) {
                    table[half + set] = joined(table[set], b[start + column]);
                }
            }
            entriesMade += (1 << columns) - 1;
        }

        private void takeEntries(int[] a, int[] into, int start, int columns) {
            for (int row = 0; row < size; row++) {
                int set = a[row] >>> start & lowest(columns);
                if (set != 0) {
                    into[row] = joined(into[row], table[set]);
                    entriesTaken++;
                }
            }
        }

        private int joined(int one, int other) {
            return isField ? one ^ other : one | other;
        }
    }

    /** Elimination over the field of two elements, with a right side that goes along. */
    private static final class Elimination {
        private final int[] left;
        private final int[] right;
        private final int[] pivots;
        private int pivotCount;

        Elimination() {
            left = new int[MOST_NODES];
            right = new int[MOST_NODES];
            pivots = new int[MOST_NODES];
        }

        void eliminate(int[] rows, int size, int rightBits) {
            for (int row = 0; row < size; row++) {
                right[row] = rightBits >>> row & 1;
            }
            eliminateAll(rows, size);
        }

        void eliminateBesideUnit(int[] rows, int size) {
            for (int row = 0; row < size; row++) {
                right[row] = 1 << row;
            }
            eliminateAll(rows, size);
        }

        boolean isSolvable(int size) {
            for (int row = pivotCount; row < size; row++) {
                if (right[row] != 0) {
                    return false;
                }
            }
            return true;
        }

        int solution() {
            int bits = 0;
            for (int index = 0; index < pivotCount; index++) {
                bits |= right[index] << pivots[index];
            }
            return bits;
        }

        int pivotAt(int index) {
            return index >= 0 && index < pivotCount ? pivots[index] : NONE;
        }

        private void eliminateAll(int[] rows, int size) {
            System.arraycopy(rows, 0, left, 0, size);
            pivotCount = 0;
            for (int column = 0; column < size; column++) {
                int row = rowNotTaken(column, size);
                if (row != NONE) {
                    swapRows(row, pivotCount);
                    clearOthers(pivotCount, column, size);
                    pivots[pivotCount] = column;
                    pivotCount++;
                }
            }
        }

        private int rowNotTaken(int column, int size) {
            for (int row = pivotCount; row < size; row++) {
                if (hasOne(left[row], column)) {
                    return row;
                }
            }
            return NONE;
        }

        private void swapRows(int one, int other) {
            int leftBits = left[one];
            left[one] = left[other];
            left[other] = leftBits;
            int rightBits = right[one];
            right[one] = right[other];
            right[other] = rightBits;
        }

        private void clearOthers(int taken, int column, int size) {
            for (int row = 0; row < size; row++) {
                if (row != taken && hasOne(left[row], column)) {
                    left[row] ^= left[taken];
                    right[row] ^= right[taken];
                }
            }
        }
    }

    /** The input buffer and the reading of a description; only the first error is kept. */
    private static final class Reader {
        private static final int MISPLACED = 1;
        private static final int OUT_OF_RANGE = 2;
        private static final int KEPT_TWICE = 3;
        private static final int TOO_GREAT = 1000;

        private final int[] text;
        private int length;
        private int position;
        private int start;
        private int statement;
        private int error;
        private int errorPosition;

        Reader() {
            text = new int[MOST_BYTES];
        }

        int addBytes(long bytes) {
            int more = 0;
            for (int shift = 56; shift >= 0; shift -= 8) {
                if ((bytes >>> shift & 255) != 0) {
                    more++;
                }
            }
            if (length + more > MOST_BYTES) {
                return FULL;
            }
            for (int shift = 56; shift >= 0; shift -= 8) {
                int one = (int) (bytes >>> shift & 255);
                if (one != 0 && length < MOST_BYTES) {
                    text[length] = one;
                    length++;
                }
            }
            return length;
        }

        void readInto(State made) {
            position = 0;
            statement = 0;
            error = 0;
            errorPosition = 0;
            readSize(made);
            for (int more = 0; more < length && hasMore(); more++) {
                takeSemicolon();
                if (error == 0) {
                    readStatement(made);
                }
            }
            for (int slot = 0; slot < SLOTS; slot++) {
                made.slots[slot].noteMadeAnew(made.size);
            }
            length = 0;
        }

        private void readSize(State made) {
            takeWord();
            if (!isWord("size")) {
                fail(MISPLACED, start);
            }
            made.makeEmpty(takeNumber(1, MOST_NODES));
        }

        private void readStatement(State made) {
            takeWord();
            if (isWord("edge")) {
                readEdge(made);
            } else if (isWord("row")) {
                readRow(made);
            } else if (isWord("fill")) {
                readFill(made);
            } else if (isWord("keep")) {
                readKeep(made);
            } else if (isWord("block")) {
                made.block = takeNumber(1, MOST_BLOCK);
            } else {
                fail(MISPLACED, start);
            }
        }

        private void readEdge(State made) {
            int slot = takeNumber(0, SLOTS - 1);
            int row = takeNumber(0, made.size - 1);
            int column = takeNumber(0, made.size - 1);
            made.slots[slot].rows[row] |= 1 << column;
        }

        private void readRow(State made) {
            int slot = takeNumber(0, SLOTS - 1);
            int row = takeNumber(0, made.size - 1);
            made.slots[slot].rows[row] = takeBits(made.size);
        }

        private void readKeep(State made) {
            int slot = takeNumber(0, SLOTS - 1);
            if (made.slots[slot].isKept) {
                fail(KEPT_TWICE, start);
            }
            made.slots[slot].isKept = true;
        }

        private void readFill(State made) {
            int slot = takeNumber(0, SLOTS - 1);
            takeWord();
            for (int row = 0; row < made.size; row++) {
                made.slots[slot].rows[row] = rowOfKind(row, made.size);
            }
        }

        private int rowOfKind(int row, int size) {
            if (isWord("unit")) {
                return 1 << row;
            }
            if (isWord("ones")) {
                return lowest(size);
            }
            if (isWord("ring")) {
                return row + 1 < size ? 1 << (row + 1) : 1;
            }
            if (isWord("lower")) {
                return lowest(row);
            }
            fail(MISPLACED, start);
            return 0;
        }

        private boolean hasMore() {
            skipSpaces();
            return error == 0 && position < length;
        }

        private void takeSemicolon() {
            if (position < length && text[position] == ';') {
                position++;
                statement++;
            } else {
                fail(MISPLACED, position);
            }
        }

        private void takeWord() {
            skipSpaces();
            start = position;
            while (position < length && text[position] >= 'a' && text[position] <= 'z') {
                position++;
            }
        }

        private void takeDigits() {
            skipSpaces();
            start = position;
            while (position < length && text[position] >= '0' && text[position] <= '9') {
                position++;
            }
            if (start == position) {
                fail(MISPLACED, start);
            }
        }

        // Answers the least value behind an error, so that what is done with it stays within bounds.
        private int takeNumber(int least, int most) {
            takeDigits();
            int value = 0;
            for (int at = start; at < position; at++) {
                value = Math.min(10 * value + text[at] - '0', TOO_GREAT);
            }
            if (value < least || value > most) {
                fail(OUT_OF_RANGE, start);
            }
            return error == 0 ? value : least;
        }

        private int takeBits(int size) {
            takeDigits();
            if (position - start != size) {
                fail(OUT_OF_RANGE, start);
                return 0;
            }
            int bits = 0;
            for (int column = 0; column < size; column++) {
                int sign = text[start + column];
                if (sign > '1') {
                    fail(OUT_OF_RANGE, start);
                } else if (sign == '1') {
                    bits |= 1 << column;
                }
            }
            return bits;
        }

        private void skipSpaces() {
            while (position < length && text[position] == ' ') {
                position++;
            }
        }

        private boolean isWord(String word) {
            if (position - start != word.length()) {
                return false;
            }
            for (int at = 0; at < word.length(); at++) {
                if (text[start + at] != word.charAt(at)) {
                    return false;
                }
            }
            return true;
        }

        private void fail(int kind, int at) {
            if (error == 0) {
                error = kind;
                errorPosition = at;
            }
        }
    }
}
