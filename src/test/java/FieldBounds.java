/** Boundary cases of the promises 36 to 39 and 47, and of what section 3 says of the field. */
final class FieldBounds {
    private FieldBounds() {
    }

    static void test() {
        ranks();
        solutions();
        inverses();
    }

    /** Slot 0 a ring, 1 all, 2 lower, 3 the last row and column alone, 4 unit and lower, 5 nothing. */
    private static BitDesk desk(int size) {
        BitDesk desk = Check.desk("size " + size + ";fill 0 ring;fill 1 ones;fill 2 lower;edge 3 " + (size - 1) + " " + (size - 1) + ";fill 4 unit");
        desk.combine(2, 4, 4, 1);
        return desk;
    }

    private static void ranks() {
        Sentence.holds("Promise 36", "Returns the rank of a matrix over the field of two elements.", () -> {
            BitDesk desk = desk(32);
            Check.due("each", desk.fieldRank(0) + " " + desk.fieldRank(1) + " " + desk.fieldRank(2) + " " + desk.fieldRank(3) + " " + desk.fieldRank(5), "32 1 31 1 0");
            Check.due("of one", desk(1).fieldRank(0) + " " + desk(1).fieldRank(5), "1 0");
            Check.due("two rows add up to the third", Check.desk("size 3;row 0 0 110;row 0 1 011;row 0 2 101").fieldRank(0), 2);
        });
        Sentence.holds("3", "Over the field: columns are gone through from 0 on; a column has a pivot if, of the rows that were not taken so far, one has a one in it", () -> {
            BitDesk desk = desk(32);
            Check.due("the last row's first", desk.pivot(3, 0) + " " + desk.pivot(3, 1), "31 -1");
            Check.due("lower has none in the last column", desk.pivot(2, 30) + " " + desk.pivot(2, 31), "30 -1");
            Check.due("a column of the rows not taken", Check.desk("size 3;row 0 0 110;row 0 1 110;row 0 2 001").pivot(0, 1), 2);
        });
        Sentence.holds("3", "(A column has a pivot exactly if it is not the sum of columns ahead of it.)", () -> {
            BitDesk desk = Check.desk("size 5;row 0 0 01011;row 0 1 00111;row 0 4 01011;fill 1 ones");
            Check.due("an empty column, two pivots, a sum, a column again", desk.pivot(0, 0) + " " + desk.pivot(0, 1) + " " + desk.pivot(0, 2), "1 2 -1");
            Check.due("the first of equal columns", desk.pivot(1, 0) + " " + desk.pivot(1, 1), "0 -1");
        });
        Sentence.holds("Promise 39", "Returns the column; NONE if there is no such index.", () -> {
            BitDesk desk = desk(32);
            Check.due("the first and the last", desk.pivot(0, 0) + " " + desk.pivot(0, 31), "0 31");
            for (int index : new int[] {32, -1, Integer.MAX_VALUE, Integer.MIN_VALUE}) {
                Check.due("pivot " + index, desk.pivot(0, index) + " " + desk.pivot(5, index), "-1 -1");
            }
            Check.due("pivot 0 of nothing", desk.pivot(5, 0) + " " + desk(1).pivot(5, 0), "-1 -1");
            Check.due("pivot 1 of one", desk(1).pivot(0, 1) + " " + desk(1).pivot(0, 0), "-1 0");
        });
    }

    private static void solutions() {
        Sentence.holds("Promise 37", "bit r of right belongs to row r, bit c of x to column c.", () -> {
            BitDesk desk = desk(32);
            Check.due("row 0 has column 1", desk.solve(0, 1L), 2L);
            Check.due("row 31 has column 0", desk.solve(0, 1L << 31), 1L);
            Check.due("row 30 has column 31", desk.solve(0, 1L << 30), 1L << 31);
            Check.due("all", desk.solve(0, 4294967295L), 4294967295L);
        });
        Sentence.holds("Promise 37", "`right`: a number of which only the lowest N bits count", () -> {
            BitDesk desk = desk(32);
            Check.due("all bits", desk.solve(0, -1L), 4294967295L);
            Check.due("the bit 32", desk.solve(0, 1L << 32) + " " + desk.solve(5, 1L << 32), "0 0");
            Check.due("the bit 63", desk.solve(5, Long.MIN_VALUE), 0L);
            Check.due("the bit 1 of one", desk(1).solve(0, 2L) + " " + desk(1).solve(0, 3L) + " " + desk(1).solve(5, 2L), "0 1 0");
            Check.due("freedom", desk(3).freedom(5, 8L) + " " + desk(3).freedom(5, 7L) + " " + desk.freedom(5, 1L << 32), "3 -1 32");
        });
        Sentence.holds("Promise 37", "Returns x, in which each column that has no pivot (section 3) is 0; NO_VALUE if there is none.", () -> {
            BitDesk desk = desk(32);
            Check.due("the pivot alone", desk.solve(1, -1L), 1L);
            Check.due("the last column alone", desk.solve(3, 1L << 31), 1L << 31);
            Check.due("none", desk.solve(1, 1L) + " " + desk.solve(5, 1L) + " " + desk.solve(3, 3L << 30) + " " + desk.solve(2, 1L), "-1 -1 -1 -1");
            Check.due("nothing of nothing", desk.solve(5, 0L) + " " + desk(1).solve(5, 0L) + " " + desk(1).solve(5, 1L), "0 0 -1");
            Check.due("the first row has all pivots' columns", Check.desk("size 3;row 0 0 111;row 0 1 011;row 0 2 001").solve(0, 0b111), 4L);
            BitDesk small = Check.desk("size 4;row 0 0 0110;row 0 1 0001;row 0 2 0111");
            Check.due("columns 0 and 2 have no pivot", small.solve(0, 0b0111) + " " + small.solve(0, 0b0101) + " " + small.solve(0, 0b0110), "-1 2 8");
        });
        Sentence.holds("Promise 38", "Returns N less fieldRank(slot); NONE if there is no solution.", () -> {
            BitDesk desk = desk(32);
            Check.due("one solution", desk.freedom(0, -1L) + " " + desk(1).freedom(0, 1L), "0 0");
            Check.due("all are solutions", desk.freedom(5, 0L) + " " + desk(1).freedom(5, 0L), "32 1");
            Check.due("some", desk.freedom(1, -1L) + " " + desk.freedom(2, 0L), "31 1");
            Check.due("none", desk.freedom(1, 1L) + " " + desk.freedom(5, 1L << 31) + " " + desk.freedom(2, 1L) + " " + desk(1).freedom(5, 1L), "-1 -1 -1 -1");
        });
    }

    private static void inverses() {
        Sentence.holds("Promise 47", "Makes the inverse over the field of two elements (an action).", () -> {
            BitDesk desk = desk(32);
            Check.due("of a ring", desk.invert(0, 3) + " " + desk.row(3, 0) + " " + desk.row(3, 31), "32 2147483648 1073741824");
            Check.due("of unit and lower", desk.invert(4, 3) + " " + desk.row(3, 0) + " " + desk.row(3, 31), "63 1 3221225472");
            Check.due("of one", desk(1).invert(0, 0) + " " + desk(1).invert(1, 5), "1 1");
            Check.due("it is its own", Check.desk("size 2;fill 0 ring").invert(0, 0), 2);
        });
        Sentence.holds("Promise 47", "SINGULAR if there is none.", () -> {
            BitDesk desk = desk(32);
            Check.due("none", desk.invert(1, 0) + " " + desk.invert(2, 0) + " " + desk.invert(5, 0) + " " + desk.invert(3, 3) + " " + desk(1).invert(5, 0), "-3 -3 -3 -3 -3");
            Check.due("by or there would be one", Check.desk("size 3;row 0 0 110;row 0 1 011;row 0 2 101").invert(0, 0), -3);
            Check.due("they are as they were", desk.ones(0) + " " + desk.ones(3) + " " + desk.count(3), "32 1 1");
        });
    }
}
