/** Promises 36 to 39 and 47: ranks, solutions, pivots and inverses over the field of two elements. */
final class FieldTest {
    // Column 1 is column 0 again, column 3 is the sum of the columns 0 and 2.
    private static final String TEXT = "size 4;row 0 0 1101;row 0 1 0011;row 0 2 1110;row 0 3 0000";

    public static void main(String[] args) {
        ranks();
        solutions();
        inverses();
        great();
        everySmallOne();
        wrongInputs();
        Check.end("FieldTest");
    }

    private static void ranks() {
        BitDesk desk = Check.desk(TEXT + ";fill 1 unit;fill 2 ones;fill 3 ring;fill 4 lower");
        Check.due("fieldRank", desk.fieldRank(0), 2);
        Check.due("fieldRank of unit", desk.fieldRank(1), 4);
        Check.due("fieldRank of ones", desk.fieldRank(2), 1);
        Check.due("fieldRank of a ring", desk.fieldRank(3), 4);
        Check.due("fieldRank of lower", desk.fieldRank(4), 3);
        Check.due("fieldRank of nothing", desk.fieldRank(5), 0);
        Check.due("pivot 0", desk.pivot(0, 0), 0);
        Check.due("pivot 1", desk.pivot(0, 1), 2);
        Check.due("pivot 2", desk.pivot(0, 2), -1);
        Check.due("pivot -1", desk.pivot(0, -1), -1);
        Check.due("pivot far", desk.pivot(0, Integer.MAX_VALUE), -1);
        Check.due("pivot of nothing", desk.pivot(5, 0), -1);
        Check.due("pivot by columns", desk.pivot(3, 0) + "" + desk.pivot(3, 1) + desk.pivot(3, 2) + desk.pivot(3, 3), "0123");
        Check.due("triangle over the field", Check.desk("size 3;row 0 0 110;row 0 1 011;row 0 2 101").fieldRank(0), 2);
    }

    private static void solutions() {
        BitDesk desk = Check.desk(TEXT + ";fill 1 unit;fill 2 ones");
        Check.due("solve", desk.solve(0, 0b0101), 0b0001L);
        Check.due("solve with two pivots", desk.solve(0, 0b0011), 0b0101L);
        Check.due("solve with the second pivot", desk.solve(0, 0b0110), 0b0100L);
        Check.due("solve nothing", desk.solve(0, 0), 0L);
        Check.due("solve what has no solution", desk.solve(0, 0b0001), -1L);
        Check.due("solve what an empty row rules out", desk.solve(0, 0b1101), -1L);
        Check.due("solve, lowest bits", desk.solve(0, 0xFFFFFFFFFFFFFFF5L), 1L);
        Check.due("solve unit", desk.solve(1, -1), 15L);
        Check.due("solve ones", desk.solve(2, 15), 1L);
        Check.due("solve an empty matrix", desk.solve(5, 16), 0L);
        Check.due("freedom", desk.freedom(0, 0b0101), 2);
        Check.due("freedom without a solution", desk.freedom(0, 0b0001), -1);
        Check.due("freedom of unit", desk.freedom(1, 9), 0);
        Check.due("freedom of ones", desk.freedom(2, -1), 3);
        Check.due("freedom of nothing", desk.freedom(5, 0), 4);
        Check.due("freedom, lowest bits", desk.freedom(5, -16), 4);
        Check.due("freedom of nothing without a solution", desk.freedom(5, 8), -1);
    }

    private static void inverses() {
        BitDesk desk = Check.desk("size 3;row 0 0 110;row 0 1 011;row 0 2 001;row 1 0 010;row 1 1 001;row 1 2 100;row 2 0 110;row 2 1 011;row 2 2 101;fill 4 ones;keep 4");
        Check.due("invert", desk.invert(0, 3), 6);
        Check.due("inverse", Check.rows(desk, 3), "7 6 4");
        Check.due("invert a ring", desk.invert(1, 1), 3);
        Check.due("inverse of a ring", Check.rows(desk, 1), "4 1 2");
        Check.due("two actions", desk.count(3), 2);
        Check.due("invert none", desk.invert(2, 4), -3);
        Check.due("invert nothing", desk.invert(5, 4), -3);
        Check.due("nothing has changed", Check.rows(desk, 4), "7 7 7");
        Check.due("nothing is made anew", desk.kept(4, 2), 1);
        Check.due("it is no action", desk.count(3), 2);
        Check.due("undo", desk.undo(), 1);
        Check.due("undo takes the latest action back", Check.rows(desk, 1), "2 4 1");
        desk.invert(0, 4);
        Check.due("it is made anew", desk.kept(4, 2), 2);
    }

    private static void great() {
        BitDesk desk = Check.desk("size 32;fill 0 ring;fill 1 lower;fill 2 unit");
        Check.due("fieldRank of 32", desk.fieldRank(0), 32);
        Check.due("pivot of 32", desk.pivot(0, 31), 31);
        Check.due("solve of 32", desk.solve(0, -1), 4294967295L);
        Check.due("solve the last column", desk.solve(2, 1L << 31), 1L << 31);
        Check.due("freedom of 32", desk.freedom(1, 0), 1);
        desk.combine(1, 2, 3, 1);
        Check.due("invert of 32", desk.invert(3, 4), 63);
        Check.due("inverse of 32", desk.row(4, 31), 3L << 30);
        Check.due("times its inverse", desk.product(3, 4, 5, true), 32);
        Check.due("is the unit", desk.row(5, 31) + desk.row(5, 0), (1L << 31) + 1);
    }

    /** All matrices of three rows, by the definitions themselves. */
    private static void everySmallOne() {
        BitDesk desk = new BitDesk();
        Check.load(desk, "size 3");
        for (int bits = 0; bits < 512; bits++) {
            if (bits % 20 == 0) {
                desk = Check.desk("size 3");
            }
            for (int row = 0; row < 3; row++) {
                desk.setRow(0, row, bits >> 3 * row);
            }
            int reached = 0;
            for (int x = 0; x < 8; x++) {
                reached |= 1 << image(bits, x);
            }
            int freedom = 3 - Integer.numberOfTrailingZeros(Integer.bitCount(reached));
            for (int right = 0; right < 8; right++) {
                boolean isThere = (reached >> right & 1) == 1;
                Check.due("freedom of " + bits + " for " + right, desk.freedom(0, right), isThere ? freedom : -1);
                long x = desk.solve(0, right);
                Check.due("solve of " + bits + " for " + right, x >= 0 ? image(bits, (int) x) == right : !isThere, true);
            }
            Check.due("invert of " + bits, desk.invert(0, 1) > 0, freedom == 0);
        }
    }

    private static int image(int bits, int x) {
        int image = 0;
        for (int row = 0; row < 3; row++) {
            image |= (Integer.bitCount(bits >> 3 * row & 7 & x) & 1) << row;
        }
        return image;
    }

    private static void wrongInputs() {
        BitDesk desk = Check.desk(TEXT);
        for (int slot : new int[] {-1, 6, Integer.MIN_VALUE, Integer.MAX_VALUE}) {
            Check.dueThrow("fieldRank", Check.INDEX, () -> desk.fieldRank(slot));
            Check.dueThrow("solve", Check.INDEX, () -> desk.solve(slot, 0));
            Check.dueThrow("freedom", Check.INDEX, () -> desk.freedom(slot, 0));
            Check.dueThrow("pivot", Check.INDEX, () -> desk.pivot(slot, 0));
            Check.dueThrow("invert", Check.INDEX, () -> desk.invert(slot, 0));
            Check.dueThrow("invert to", Check.INDEX, () -> desk.invert(0, slot));
        }
    }
}
