/** Boundary cases of the promises 7 to 19: bits, rows, ranks, equal rows, whole matrices. */
final class RowBounds {
    private RowBounds() {
    }

    static void test() {
        bits();
        ranks();
        equalRows();
        wholes();
    }

    /** The last row and column of the greatest size, the only ones of the least. */
    private static BitDesk great() {
        return Check.desk("size 32;fill 0 unit;fill 1 ones;fill 2 lower;edge 3 31 0;edge 3 31 31");
    }

    private static BitDesk one() {
        return Check.desk("size 1;fill 0 unit");
    }

    private static void bits() {
        Sentence.holds("Promise 7", "Returns 0 or 1.", () -> {
            Check.due("corners", great().bit(0, 0, 0) + "" + great().bit(0, 31, 31) + great().bit(0, 0, 31) + great().bit(0, 31, 0), "1100");
            Check.due("of one", one().bit(0, 0, 0) + "" + one().bit(5, 0, 0), "10");
        });
        Sentence.holds("Promise 8", "Returns a row as a number: the sum of 2^c over the columns c of its ones.", () -> {
            Check.due("all ones", great().row(1, 31), 4294967295L);
            Check.due("column 31 alone", great().row(0, 31), 2147483648L);
            Check.due("column 0 alone", great().row(0, 0), 1L);
            Check.due("none", great().row(2, 0), 0L);
            Check.due("of one", one().row(0, 0) + one().row(5, 0), 1L);
        });
    }

    private static void ranks() {
        Sentence.holds("Promise 9", "Counts the ones of a row ahead of a column.", () -> {
            Check.due("ahead of 0", great().rank(1, 31, 0), 0);
            Check.due("ahead of 1", great().rank(1, 31, 1), 1);
            Check.due("ahead of 31", great().rank(1, 31, 31), 31);
            Check.due("ahead of N", great().rank(1, 31, 32), 32);
            Check.due("the column itself is not counted", great().rank(0, 31, 31), 0);
            Check.due("the last column ahead of N", great().rank(0, 31, 32), 1);
            Check.due("of one", one().rank(0, 0, 0) + "" + one().rank(0, 0, 1), "01");
            Check.dueThrow("ahead of N + 1", Check.ARGUMENT, () -> great().rank(1, 31, 33));
            Check.dueThrow("ahead of -1", Check.ARGUMENT, () -> great().rank(1, 31, -1));
        });
        Sentence.holds("Promise 10", "Finds a one of a row by its index among them, from 0.", () -> {
            Check.due("the first of all", great().select(1, 0, 0), 0);
            Check.due("the last of all", great().select(1, 0, 31), 31);
            Check.due("the first of two", great().select(3, 31, 0), 0);
            Check.due("the last of two", great().select(3, 31, 1), 31);
        });
        Sentence.holds("Promise 10", "NONE if there is no such one.", () -> {
            for (int index : new int[] {2, 31, 32, 33, -1, Integer.MAX_VALUE, Integer.MIN_VALUE}) {
                Check.due("one " + index + " of two", great().select(3, 31, index), -1);
                Check.due("one " + index + " of none", great().select(5, 0, index), -1);
            }
            Check.due("one 0 of none", great().select(5, 0, 0), -1);
            Check.due("one 32 of 32", great().select(1, 0, 32), -1);
            Check.due("one -1 of 32", great().select(1, 0, -1), -1);
            Check.due("one 1 of one", one().select(0, 0, 1), -1);
        });
        Sentence.holds("Promise 11", "Counts the ones of a matrix.", () ->
            Check.due("all, none, one", great().ones(1) + " " + great().ones(5) + " " + one().ones(0), "1024 0 1"));
        Sentence.holds("Promise 12", "Counts the ones of a column.", () -> {
            Check.due("the last column", great().columnOnes(1, 31) + " " + great().columnOnes(2, 31) + " " + great().columnOnes(3, 31), "32 0 1");
            Check.due("the first column", great().columnOnes(2, 0) + " " + one().columnOnes(0, 0), "31 1");
        });
    }

    private static void equalRows() {
        Sentence.holds("Promise 13", "Returns that row (it can be the row itself).", () -> {
            Check.due("the row itself, the last one", great().sameAs(0, 31), 31);
            Check.due("the row itself, the first one", great().sameAs(1, 0), 0);
            Check.due("the first row", great().sameAs(1, 31), 0);
            Check.due("the first of the others", great().sameAs(3, 30), 0);
            Check.due("of one", one().sameAs(0, 0), 0);
        });
        Sentence.holds("Promise 13", "Finds the first row that is equal to a row.", () -> {
            BitDesk desk = Check.desk("size 5;row 0 1 10000;row 0 2 10000;row 0 3 10000");
            Check.due("the first ones", desk.sameAs(0, 3) + "" + desk.sameAs(0, 2) + desk.sameAs(0, 1) + desk.sameAs(0, 4) + desk.sameAs(0, 0), "11100");
        });
        Sentence.holds("Promise 14", "Counts the different rows.", () ->
            Check.due("all, one, two, of one", great().classes(0) + " " + great().classes(1) + " " + great().classes(3) + " " + one().classes(0), "32 1 2 1"));
        Sentence.holds("Promise 15", "classes are numbered from 0 by their first rows.", () -> {
            Check.due("the first and the last of 32", great().classOf(0, 0) + " " + great().classOf(0, 31), "0 31");
            Check.due("all of one class", great().classOf(1, 31), 0);
            Check.due("the last row of another class", great().classOf(3, 31) + " " + great().classOf(3, 30), "1 0");
            BitDesk desk = Check.desk("size 5;row 0 0 11111;row 0 2 00001;row 0 3 11111");
            Check.due("by their first rows", desk.classOf(0, 0) + "" + desk.classOf(0, 1) + desk.classOf(0, 2) + desk.classOf(0, 3) + desk.classOf(0, 4), "01201");
        });
        Sentence.holds("Promise 16", "Finds the first row that is a number, as row(int, int) tells it.", () -> {
            Check.due("the last column", great().find(0, 2147483648L), 31);
            Check.due("the first of all", great().find(1, 4294967295L), 0);
            Check.due("the last row", great().find(3, 2147483649L), 31);
        });
        Sentence.holds("Promise 16", "`bits`: the number; only the lowest N bits count", () -> {
            Check.due("all bits for 32", great().find(1, -1L), 0);
            Check.due("the bit 32 for 32", great().find(2, 1L << 32), 0);
            Check.due("the lowest bit and others for 32", great().find(0, Long.MIN_VALUE | 1L), 0);
            Check.due("a sign for 32", great().find(0, Integer.MIN_VALUE), 31);
            Check.due("the bit 1 for one", one().find(0, 2) + "" + one().find(5, 2), "-10");
            Check.due("all bits for one", one().find(0, -1L), 0);
            Check.due("the bits 3 and 4 for three", Check.desk("size 3;fill 0 unit").find(0, 0b11010), 1);
        });
        Sentence.holds("Promise 16", "NONE if there is none.", () -> {
            Check.due("none", great().find(0, 0) + " " + great().find(1, 1L << 31) + " " + great().find(5, -1L) + " " + one().find(0, 0), "-1 -1 -1 -1");
        });
        Sentence.holds("Promise 17", "Finds another row that differs from a row in the fewest columns.", () -> {
            Check.due("never the row itself", great().nearest(5, 0) + " " + great().nearest(1, 31), "1 0");
            Check.due("no column", great().nearest(3, 0), 1);
            Check.due("all columns", Check.desk("size 2;row 0 1 11").nearest(0, 1), 0);
            Check.due("the last row", Check.desk("size 4;row 0 0 1111;row 0 3 1110").nearest(0, 0), 3);
        });
        Sentence.holds("Promise 17", "of several the first one; NONE if N is 1.", () -> {
            Check.due("N is 1", one().nearest(0, 0) + " " + one().nearest(5, 0), "-1 -1");
            Check.due("N is 2", Check.desk("size 2").nearest(0, 0) + " " + Check.desk("size 2").nearest(0, 1), "1 0");
            Check.due("several", great().nearest(0, 0) + " " + great().nearest(0, 31), "1 0");
            Check.due("32 columns differ", Check.desk("size 32;row 0 5 " + "1".repeat(32)).nearest(0, 5), 0);
        });
    }

    private static void wholes() {
        Sentence.holds("Promise 18", "Returns (double) (ones) / (double) (N * N).", () -> {
            Check.due("all", great().density(1), 1.0);
            Check.due("none", great().density(5), 0.0);
            Check.due("a part", great().density(2), 496.0 / 1024.0);
            Check.due("a part that no double is", Check.desk("size 3;edge 0 2 2").density(0), 1.0 / 9.0);
            Check.due("of one", one().density(0) + one().density(5), 1.0);
        });
        Sentence.holds("Promise 19", "Returns true if it is.", () -> {
            Check.due("none, all, unit", great().isSymmetric(5) && great().isSymmetric(1) && great().isSymmetric(0), true);
            Check.due("the corner alone", great().isSymmetric(3), false);
            Check.due("of one", one().isSymmetric(0), true);
            Check.due("two columns round", Check.desk("size 2;fill 0 ring").isSymmetric(0), true);
            Check.due("three columns round", Check.desk("size 3;fill 0 ring").isSymmetric(0), false);
        });
    }
}
