/** Promises 7 to 19: bits, rows, ranks, equal rows, and what is told of a whole matrix. */
final class RowTest {
    private static final String TEXT = "size 4;row 0 0 1010;row 0 1 0110;row 0 2 1010;row 0 3 0000";

    public static void main(String[] args) {
        bits();
        ranks();
        equalRows();
        wholes();
        wrongInputs();
        Check.end("RowTest");
    }

    private static void bits() {
        BitDesk desk = Check.desk(TEXT);
        Check.due("bit", desk.bit(0, 0, 0) + "" + desk.bit(0, 0, 1) + desk.bit(0, 0, 2) + desk.bit(0, 0, 3), "1010");
        Check.due("bit of slot 5", desk.bit(5, 3, 3), 0);
        Check.due("row 0", desk.row(0, 0), 5L);
        Check.due("row 1", desk.row(0, 1), 6L);
        Check.due("row 3", desk.row(0, 3), 0L);
        BitDesk great = Check.desk("size 32;fill 0 ones;fill 1 unit");
        Check.due("row of 32 ones", great.row(0, 31), 4294967295L);
        Check.due("row of the last column", great.row(1, 31), 2147483648L);
        Check.due("bit of the last column", great.bit(1, 31, 31), 1);
    }

    private static void ranks() {
        BitDesk desk = Check.desk(TEXT);
        Check.due("rank 0", desk.rank(0, 0, 0), 0);
        Check.due("rank 1", desk.rank(0, 0, 1), 1);
        Check.due("rank 2", desk.rank(0, 0, 2), 1);
        Check.due("rank N", desk.rank(0, 0, 4), 2);
        Check.due("select 0", desk.select(0, 0, 0), 0);
        Check.due("select 1", desk.select(0, 0, 1), 2);
        Check.due("select 2", desk.select(0, 0, 2), -1);
        Check.due("select -1", desk.select(0, 0, -1), -1);
        Check.due("select great", desk.select(0, 0, Integer.MAX_VALUE), -1);
        Check.due("select of no ones", desk.select(0, 3, 0), -1);
        Check.due("ones", desk.ones(0), 6);
        Check.due("ones of none", desk.ones(1), 0);
        Check.due("columnOnes 0", desk.columnOnes(0, 0), 2);
        Check.due("columnOnes 2", desk.columnOnes(0, 2), 3);
        Check.due("columnOnes 3", desk.columnOnes(0, 3), 0);
        BitDesk great = Check.desk("size 32;fill 0 ones;fill 1 lower");
        Check.due("rank of 32", great.rank(0, 31, 32), 32);
        Check.due("rank of 31", great.rank(0, 31, 31), 31);
        Check.due("select of 32", great.select(0, 31, 31), 31);
        Check.due("select behind 32", great.select(0, 31, 32), -1);
        Check.due("ones of 32", great.ones(0), 1024);
        Check.due("columnOnes of 32", great.columnOnes(0, 31), 32);
        Check.due("columnOnes of lower", great.columnOnes(1, 0), 31);
        Check.dueThrow("rank -1", Check.ARGUMENT, () -> desk.rank(0, 0, -1));
        Check.dueThrow("rank N + 1", Check.ARGUMENT, () -> desk.rank(0, 0, 5));
        Check.dueThrow("rank of 33", Check.ARGUMENT, () -> great.rank(0, 0, 33));
        Check.dueThrow("rank, row first", Check.INDEX, () -> desk.rank(0, 4, 5));
        Check.dueThrow("rank, slot first", Check.INDEX, () -> desk.rank(6, 0, -1));
    }

    private static void equalRows() {
        BitDesk desk = Check.desk(TEXT);
        Check.due("sameAs of the first", desk.sameAs(0, 0), 0);
        Check.due("sameAs of a later one", desk.sameAs(0, 2), 0);
        Check.due("sameAs of itself", desk.sameAs(0, 3), 3);
        Check.due("classes", desk.classes(0), 3);
        Check.due("classes of nothing", desk.classes(1), 1);
        Check.due("classOf", desk.classOf(0, 0) + "" + desk.classOf(0, 1) + desk.classOf(0, 2) + desk.classOf(0, 3), "0102");
        Check.due("find", desk.find(0, 5), 0);
        Check.due("find, lowest bits", desk.find(0, 0x7777777777777776L), 1);
        Check.due("find nothing", desk.find(0, 16), 3);
        Check.due("find none", desk.find(0, -1), -1);
        Check.due("find no empty row", Check.desk("size 4;fill 0 ones").find(0, 0), -1);
        Check.due("nearest, equal", desk.nearest(0, 0), 2);
        Check.due("nearest, equal, back", desk.nearest(0, 2), 0);
        Check.due("nearest, first of several", desk.nearest(0, 1), 0);
        Check.due("nearest, first of all", desk.nearest(0, 3), 0);
        Check.due("nearest of nothing", desk.nearest(1, 0), 1);
        BitDesk one = Check.desk("size 1");
        Check.due("nearest of one", one.nearest(0, 0), -1);
        Check.due("classes of one", one.classes(0), 1);
        Check.due("find of one", one.find(0, -2), 0);
        BitDesk great = Check.desk("size 32;fill 0 unit;fill 1 ones");
        Check.due("classes of unit", great.classes(0), 32);
        Check.due("classOf of unit", great.classOf(0, 31), 31);
        Check.due("find of unit", great.find(0, 0x100000000L | 1L << 31), 31);
        Check.due("find of ones", great.find(1, -1), 0);
        Check.due("nearest, all columns differ", Check.desk("size 2;row 0 0 11").nearest(0, 1), 0);
        BitDesk far = Check.desk("size 32;row 0 0 11111111111111111111111111111111");
        Check.due("nearest of 32", far.nearest(0, 0), 1);
    }

    private static void wholes() {
        BitDesk desk = Check.desk(TEXT);
        Check.due("density", desk.density(0), 6.0 / 16.0);
        Check.due("density of nothing", desk.density(1), 0.0);
        BitDesk third = Check.desk("size 3;edge 0 1 1;fill 1 ones;fill 2 ring;edge 3 0 2;edge 3 2 0");
        Check.due("density of a ninth", third.density(0), 1.0 / 9.0);
        Check.due("density of ones", third.density(1), 1.0);
        Check.due("isSymmetric of a one", third.isSymmetric(0), true);
        Check.due("isSymmetric of ones", third.isSymmetric(1), true);
        Check.due("isSymmetric of a ring", third.isSymmetric(2), false);
        Check.due("isSymmetric of two", third.isSymmetric(3), true);
        Check.due("isSymmetric of nothing", third.isSymmetric(4), true);
        Check.due("isSymmetric", desk.isSymmetric(0), false);
        Check.due("isSymmetric of the last", Check.desk("size 32;edge 0 31 0").isSymmetric(0), false);
        Check.due("isSymmetric of 32", Check.desk("size 32;edge 0 31 0;edge 0 0 31").isSymmetric(0), true);
    }

    private static void wrongInputs() {
        BitDesk desk = Check.desk(TEXT);
        for (int slot : new int[] {-1, 6, Integer.MIN_VALUE, Integer.MAX_VALUE}) {
            Check.dueThrow("bit", Check.INDEX, () -> desk.bit(slot, 0, 0));
            Check.dueThrow("row", Check.INDEX, () -> desk.row(slot, 0));
            Check.dueThrow("rank", Check.INDEX, () -> desk.rank(slot, 0, 0));
            Check.dueThrow("select", Check.INDEX, () -> desk.select(slot, 0, 0));
            Check.dueThrow("ones", Check.INDEX, () -> desk.ones(slot));
            Check.dueThrow("columnOnes", Check.INDEX, () -> desk.columnOnes(slot, 0));
            Check.dueThrow("sameAs", Check.INDEX, () -> desk.sameAs(slot, 0));
            Check.dueThrow("classes", Check.INDEX, () -> desk.classes(slot));
            Check.dueThrow("classOf", Check.INDEX, () -> desk.classOf(slot, 0));
            Check.dueThrow("find", Check.INDEX, () -> desk.find(slot, 0));
            Check.dueThrow("nearest", Check.INDEX, () -> desk.nearest(slot, 0));
            Check.dueThrow("density", Check.INDEX, () -> desk.density(slot));
            Check.dueThrow("isSymmetric", Check.INDEX, () -> desk.isSymmetric(slot));
        }
        for (int row : new int[] {-1, 4, 32, Integer.MIN_VALUE, Integer.MAX_VALUE}) {
            Check.dueThrow("bit", Check.INDEX, () -> desk.bit(0, row, 0));
            Check.dueThrow("bit, column", Check.INDEX, () -> desk.bit(0, 0, row));
            Check.dueThrow("row", Check.INDEX, () -> desk.row(0, row));
            Check.dueThrow("rank", Check.INDEX, () -> desk.rank(0, row, 0));
            Check.dueThrow("select", Check.INDEX, () -> desk.select(0, row, 0));
            Check.dueThrow("columnOnes", Check.INDEX, () -> desk.columnOnes(0, row));
            Check.dueThrow("sameAs", Check.INDEX, () -> desk.sameAs(0, row));
            Check.dueThrow("classOf", Check.INDEX, () -> desk.classOf(0, row));
            Check.dueThrow("nearest", Check.INDEX, () -> desk.nearest(0, row));
        }
    }
}
