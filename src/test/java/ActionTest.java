/** Promises 40 to 52: the actions. */
final class ActionTest {
    public static void main(String[] args) {
        put();
        setRow();
        copies();
        combine();
        product();
        power();
        close();
        reduce();
        exchange();
        keepAndBlock();
        wrongInputs();
        Check.end("ActionTest");
    }

    private static void put() {
        BitDesk desk = Check.desk("size 4");
        Check.due("put", desk.put(0, 0, 1, true), 1);
        Check.due("put it again", desk.put(0, 0, 1, true), 0);
        Check.due("put a next one", desk.put(0, 1, 2, true), 2);
        Check.due("put a way round", desk.put(0, 0, 2, true), 0);
        Check.due("put a way back", desk.put(0, 2, 0, true), 6);
        Check.due("rows", Check.rows(desk, 0), "6 4 1 0");
        Check.due("put none", desk.put(0, 0, 1, false), 3);
        Check.due("pairs then", desk.pairs(0), 6);
        Check.due("put none again", desk.put(0, 0, 1, false), 0);
        Check.due("put the way back to none", desk.put(0, 2, 0, false), 4);
        Check.due("pairs then", desk.pairs(0), 2);
        Check.due("all are actions", desk.count(3), 8);
        Check.due("rows", Check.rows(desk, 0), "4 4 0 0");
        Check.due("put at an end", desk.put(0, 3, 3, true), 1);
        BitDesk great = Check.desk("size 32;fill 0 ring");
        Check.due("put a hole in a ring", great.put(0, 31, 0, false), 1024 - 31 * 16);
        Check.due("mend it", great.put(0, 31, 0, true), 1024 - 31 * 16);
    }

    private static void setRow() {
        BitDesk desk = Check.desk("size 4;row 0 0 1100");
        Check.due("setRow", desk.setRow(0, 0, 0b1010), 2);
        Check.due("row", desk.row(0, 0), 10L);
        Check.due("setRow again", desk.setRow(0, 0, 0b1010), 0);
        Check.due("setRow, lowest bits", desk.setRow(0, 3, -1), 4);
        Check.due("row", desk.row(0, 3), 15L);
        Check.due("setRow, lowest bits", desk.setRow(0, 3, 16), 4);
        Check.due("actions", desk.count(3), 4);
        Check.due("setRow of 32", Check.desk("size 32").setRow(5, 31, -1), 32);
    }

    private static void copies() {
        BitDesk desk = Check.desk("size 3;row 0 0 110;row 0 2 100");
        Check.due("copy", desk.copy(0, 5), 3);
        Check.due("copied", Check.rows(desk, 5), "3 0 1");
        Check.due("copy to itself", desk.copy(0, 0), 3);
        Check.due("copied to itself", Check.rows(desk, 0), "3 0 1");
        desk.put(5, 1, 1, true);
        Check.due("the copy is its own", Check.rows(desk, 0), "3 0 1");
        Check.due("copy nothing", desk.copy(1, 5), 0);
        Check.due("copied nothing", Check.rows(desk, 5), "0 0 0");
        Check.due("transpose", desk.transpose(0, 1), 3);
        Check.due("transposed", Check.rows(desk, 1), "5 1 0");
        Check.due("transpose to itself", desk.transpose(0, 0), 3);
        Check.due("transposed", Check.rows(desk, 0), "5 1 0");
        Check.due("actions", desk.count(3), 6);
        BitDesk great = Check.desk("size 32;fill 0 lower");
        Check.due("transpose of 32", great.transpose(0, 0), 496);
        Check.due("transposed of 32", great.row(0, 0), 0xFFFFFFFEL);
        Check.due("closure of what is made", great.reached(0, 0), 31);
    }

    private static void combine() {
        BitDesk desk = Check.desk("size 2;row 0 0 11;row 0 1 00;row 1 0 10;row 1 1 10");
        Check.due("and", desk.combine(0, 1, 2, 0) + ": " + Check.rows(desk, 2), "1: 1 0");
        Check.due("or", desk.combine(0, 1, 2, 1) + ": " + Check.rows(desk, 2), "3: 3 1");
        Check.due("exclusive or", desk.combine(0, 1, 2, 2) + ": " + Check.rows(desk, 2), "2: 2 1");
        Check.due("without", desk.combine(0, 1, 2, 3) + ": " + Check.rows(desk, 2), "1: 2 0");
        Check.due("the other without", desk.combine(1, 0, 2, 3) + ": " + Check.rows(desk, 2), "1: 0 1");
        Check.due("to the second one", desk.combine(0, 1, 1, 3) + ": " + Check.rows(desk, 1), "1: 2 0");
        Check.due("all the same", desk.combine(0, 0, 0, 2) + ": " + Check.rows(desk, 0), "0: 0 0");
        Check.due("actions", desk.count(3), 7);
        Check.dueThrow("how 4", Check.ARGUMENT, () -> desk.combine(0, 1, 2, 4));
        Check.dueThrow("how -1", Check.ARGUMENT, () -> desk.combine(0, 1, 2, -1));
        Check.dueThrow("slot first", Check.INDEX, () -> desk.combine(0, 1, 6, 4));
        Check.due("no action", desk.count(3), 7);
    }

    private static void product() {
        String text = "size 3;row 0 0 110;row 0 1 011;row 0 2 000;row 1 0 101;row 1 1 110;row 1 2 010;block ";
        for (int block = 1; block <= 8; block++) {
            BitDesk desk = Check.desk(text + block);
            Check.due("product by or", desk.product(0, 1, 2, false) + ": " + Check.rows(desk, 2), "5: 7 3 0");
            Check.due("product over the field", desk.product(0, 1, 2, true) + ": " + Check.rows(desk, 2), "3: 6 1 0");
            Check.due("the other way", desk.product(1, 0, 2, true) + ": " + Check.rows(desk, 2), "6: 3 5 6");
            Check.due("to the first one", desk.product(0, 1, 0, false) + ": " + Check.rows(desk, 0), "5: 7 3 0");
            Check.due("to all of them", desk.product(1, 1, 1, true) + ": " + Check.rows(desk, 1), "7: 7 6 3");
            Check.due("actions", desk.count(3), 5);
            BitDesk great = Check.desk("size 32;fill 0 ring;fill 1 ones;block " + block);
            Check.due("product of 32", great.product(1, 1, 2, true), 0);
            Check.due("product of 32 by or", great.product(1, 0, 2, false), 1024);
            Check.due("ring by ring", great.product(0, 0, 2, true) + great.row(2, 31), 34L);
        }
    }

    private static void power() {
        BitDesk desk = Check.desk("size 5;fill 0 ring;row 1 0 11000;row 1 1 01100;row 1 2 00110;row 1 3 00011;row 1 4 10001");
        Check.due("power 0", desk.power(0, 0, 2, false) + ": " + Check.rows(desk, 2), "5: 1 2 4 8 16");
        Check.due("power 0 of nothing", desk.power(5, 0, 2, true), 5);
        Check.due("power 1", desk.power(0, 1, 2, true) + ": " + Check.rows(desk, 2), "5: 2 4 8 16 1");
        Check.due("power 3", desk.power(0, 3, 2, false) + ": " + Check.rows(desk, 2), "5: 8 16 1 2 4");
        Check.due("greatest power", desk.power(0, 1000000, 2, true) + ": " + Check.rows(desk, 2), "5: 1 2 4 8 16");
        Check.due("power 999999", desk.power(0, 999999, 2, true) + ": " + Check.rows(desk, 2), "5: 16 1 2 4 8");
        Check.due("power 2 by or", desk.power(1, 2, 2, false), 15);
        Check.due("power 2 over the field", desk.power(1, 2, 2, true), 10);
        for (int exponent = 0; exponent < 40; exponent++) {
            BitDesk one = Check.desk("size 5;row 0 0 11000;row 0 1 00100;row 0 2 00110;row 0 3 00001;row 0 4 10000;fill 1 unit;fill 2 unit");
            for (int i = 0; i < exponent; i++) {
                one.product(1, 0, 1, false);
                one.product(2, 0, 2, true);
            }
            one.power(0, exponent, 3, false);
            Check.due("power " + exponent + " by or", Check.rows(one, 3), Check.rows(one, 1));
            one.power(0, exponent, 0, true);
            Check.due("power " + exponent + " over the field", Check.rows(one, 0), Check.rows(one, 2));
        }
        BitDesk great = Check.desk("size 32;fill 0 ring;fill 1 lower;fill 2 unit");
        Check.due("power of 32", great.power(0, 1000000, 3, true) + great.row(3, 0), 33L);
        great.combine(1, 2, 3, 1);
        Check.due("power 31 of 32", great.power(3, 31, 4, true) + great.row(4, 31), 63 + (3L << 30));
        Check.due("power 32 over the field", great.power(3, 32, 4, true), 32);
        int actions = desk.count(3);
        Check.dueThrow("power -1", Check.ARGUMENT, () -> desk.power(0, -1, 2, false));
        Check.dueThrow("power 1000001", Check.ARGUMENT, () -> desk.power(0, 1000001, 2, false));
        Check.dueThrow("slot first", Check.INDEX, () -> desk.power(0, -1, 6, false));
        Check.due("no action", desk.count(3), actions);
    }

    private static void close() {
        BitDesk desk = Check.desk("size 4;edge 0 0 1;edge 0 1 2;edge 0 2 1;edge 1 3 3");
        Check.due("close", desk.close(0, 2) + ": " + Check.rows(desk, 2), "6: 6 6 6 0");
        Check.due("close a closure", desk.close(2, 2), 6);
        Check.due("close to itself", desk.close(0, 0) + ": " + Check.rows(desk, 0), "6: 6 6 6 0");
        Check.due("close one", desk.close(1, 3), 1);
        Check.due("close nothing", desk.close(5, 3), 0);
        Check.due("actions", desk.count(3), 5);
        Check.due("close of 32", Check.desk("size 32;fill 0 ring").close(0, 1), 1024);
    }

    private static void reduce() {
        BitDesk desk = Check.desk("size 4;edge 0 0 1;edge 0 1 2;edge 0 0 2;edge 0 3 3;fill 1 ones;fill 2 lower;edge 3 0 0;edge 3 0 1;edge 3 1 0");
        Check.due("reduce", desk.reduce(0, 4) + ": " + Check.rows(desk, 4), "3: 2 4 0 8");
        Check.due("reduce ones", desk.reduce(1, 4) + ": " + Check.rows(desk, 4), "6: 8 8 8 7");
        Check.due("the closure is the same", desk.pairs(4), 16);
        Check.due("reduce lower", desk.reduce(2, 2) + ": " + Check.rows(desk, 2), "3: 0 1 2 4");
        Check.due("an edge to itself in a cycle", desk.reduce(3, 4) + ": " + Check.rows(desk, 4), "2: 2 1 0 0");
        Check.due("reduce nothing", desk.reduce(5, 4), 0);
        Check.due("actions", desk.count(3), 5);
        Check.due("reduce of 32", Check.desk("size 32;fill 0 ones").reduce(0, 0), 62);
    }

    private static void exchange() {
        BitDesk desk = Check.desk("size 3;row 0 0 110;row 0 1 001;row 0 2 010");
        Check.due("exchange", desk.exchange(0, 0, 2) + ": " + Check.rows(desk, 0), "4: 2 1 6");
        Check.due("exchange back", desk.exchange(0, 2, 0) + ": " + Check.rows(desk, 0), "4: 3 4 2");
        Check.due("exchange one with itself", desk.exchange(0, 1, 1) + ": " + Check.rows(desk, 0), "0: 3 4 2");
        Check.due("exchange nothing", desk.exchange(1, 0, 1), 0);
        Check.due("actions", desk.count(3), 4);
        BitDesk great = Check.desk("size 32;edge 0 0 31;edge 0 31 31");
        Check.due("exchange of 32", great.exchange(0, 0, 31) + ": " + great.row(0, 0) + " " + great.row(0, 31), "4: 1 1");
    }

    private static void keepAndBlock() {
        BitDesk desk = Check.desk("size 3;keep 2");
        Check.due("keep", desk.keep(0, true), 2);
        Check.due("keep again", desk.keep(0, true), 2);
        Check.due("keep no longer", desk.keep(2, false), 1);
        Check.due("keep no longer again", desk.keep(2, false), 1);
        Check.due("keep none", desk.keep(0, false), 0);
        Check.due("kept slots", desk.count(2), 0);
        Check.due("setBlock", desk.setBlock(1), 4);
        Check.due("setBlock 8", desk.setBlock(8), 1);
        Check.due("setBlock 8 again", desk.setBlock(8), 8);
        Check.due("BLOCK", desk.count(1), 8);
        Check.due("actions", desk.count(3), 8);
        BitDesk other = Check.desk("size 3");
        Check.dueThrow("setBlock 0", Check.ARGUMENT, () -> other.setBlock(0));
        Check.dueThrow("setBlock 9", Check.ARGUMENT, () -> other.setBlock(9));
        Check.due("BLOCK is as it was", other.count(1) * 10 + other.count(3), 40);
    }

    private static void wrongInputs() {
        BitDesk desk = Check.desk("size 4;fill 0 ring;keep 0");
        String before = Check.rows(desk, 0);
        for (int slot : new int[] {-1, 6, Integer.MIN_VALUE, Integer.MAX_VALUE}) {
            Check.dueThrow("put", Check.INDEX, () -> desk.put(slot, 0, 0, true));
            Check.dueThrow("setRow", Check.INDEX, () -> desk.setRow(slot, 0, 1));
            Check.dueThrow("copy", Check.INDEX, () -> desk.copy(slot, 0));
            Check.dueThrow("copy to", Check.INDEX, () -> desk.copy(1, slot));
            Check.dueThrow("transpose", Check.INDEX, () -> desk.transpose(slot, 0));
            Check.dueThrow("transpose to", Check.INDEX, () -> desk.transpose(0, slot));
            Check.dueThrow("combine", Check.INDEX, () -> desk.combine(slot, 0, 0, 0));
            Check.dueThrow("combine with", Check.INDEX, () -> desk.combine(0, slot, 0, 0));
            Check.dueThrow("combine to", Check.INDEX, () -> desk.combine(0, 0, slot, 0));
            Check.dueThrow("product", Check.INDEX, () -> desk.product(slot, 0, 0, true));
            Check.dueThrow("product with", Check.INDEX, () -> desk.product(0, slot, 0, true));
            Check.dueThrow("product to", Check.INDEX, () -> desk.product(0, 0, slot, true));
            Check.dueThrow("power", Check.INDEX, () -> desk.power(slot, 2, 0, true));
            Check.dueThrow("power to", Check.INDEX, () -> desk.power(0, 2, slot, true));
            Check.dueThrow("close", Check.INDEX, () -> desk.close(slot, 0));
            Check.dueThrow("close to", Check.INDEX, () -> desk.close(0, slot));
            Check.dueThrow("reduce", Check.INDEX, () -> desk.reduce(slot, 0));
            Check.dueThrow("reduce to", Check.INDEX, () -> desk.reduce(0, slot));
            Check.dueThrow("exchange", Check.INDEX, () -> desk.exchange(slot, 0, 1));
            Check.dueThrow("keep", Check.INDEX, () -> desk.keep(slot, false));
        }
        for (int node : new int[] {-1, 4, 32, Integer.MIN_VALUE, Integer.MAX_VALUE}) {
            Check.dueThrow("put, row", Check.INDEX, () -> desk.put(0, node, 0, true));
            Check.dueThrow("put, column", Check.INDEX, () -> desk.put(0, 0, node, true));
            Check.dueThrow("setRow, row", Check.INDEX, () -> desk.setRow(0, node, 1));
            Check.dueThrow("exchange, a", Check.INDEX, () -> desk.exchange(0, node, 1));
            Check.dueThrow("exchange, b", Check.INDEX, () -> desk.exchange(0, 1, node));
        }
        Check.due("nothing has changed", Check.rows(desk, 0), before);
        Check.due("no action", desk.count(3), 0);
        Check.due("nothing was looked at", desk.kept(0, 1) * 10 + desk.kept(0, 2), 41);
    }
}
