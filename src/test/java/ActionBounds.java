/** Boundary cases of section 4 and of the promises 40 to 52: the actions. */
final class ActionBounds {
    private static final int ACTIONS = 13;

    private ActionBounds() {
    }

    static void test() {
        takenBack();
        refused();
        ofThemselves();
        constants();
        rowsAndBits();
        copies();
        products();
        closures();
        settings();
    }

    /** Slot 0 a ring, 1 all, 2 lower, 3 unit, 4 the last row and column alone, 5 nothing; 0 and 1 are kept. */
    private static BitDesk desk(int size) {
        return Check.desk("size " + size + ";fill 0 ring;fill 1 ones;fill 2 lower;fill 3 unit;edge 4 " + (size - 1) + " " + (size - 1) + ";keep 0;keep 1");
    }

    private static void idle(BitDesk desk, int action) {
        switch (action) {
            case 0: desk.put(0, 0, 1, true); break;
            case 1: desk.put(0, 0, 0, false); break;
            case 2: desk.setRow(0, 0, 2L); break;
            case 3: desk.copy(0, 0); break;
            case 4: desk.transpose(3, 3); break;
            case 5: desk.combine(0, 5, 0, 1); break;
            case 6: desk.product(0, 3, 0, true); break;
            case 7: desk.power(0, 1, 0, false); break;
            case 8: desk.invert(3, 3); break;
            case 9: desk.close(1, 1); break;
            case 10: desk.reduce(0, 0); break;
            case 11: desk.exchange(0, 2, 2); break;
            case 12: desk.keep(5, false); break;
            default: desk.setBlock(4);
        }
    }

    private static void takenBack() {
        Sentence.holds("4", "The methods that are called actions can be taken back: the latest 8 of them that did not return SINGULAR.", () -> {
            BitDesk desk = desk(4);
            for (int i = 1; i <= 9; i++) {
                desk.setRow(5, 0, i);
            }
            Check.due("nine actions", desk.count(3), 8);
            Check.due("SINGULAR", desk.invert(5, 5), -3);
            Check.due("it takes no action's place", desk.count(3), 8);
            for (int i = 8; i >= 1; i--) {
                Check.due("undo", desk.undo() + " " + desk.row(5, 0), (i - 1) + " " + i);
            }
            Check.due("the first of nine stays", desk.undo() + " " + desk.row(5, 0), "-1 1");
        });
        Sentence.holds("4", "An action counts also if it changes nothing.", () -> {
            for (int action = 0; action <= ACTIONS; action++) {
                BitDesk desk = desk(4);
                desk.setRow(5, 3, 1);
                String before = Check.rows(desk, 0) + ", " + Check.rows(desk, 3) + ", " + Check.rows(desk, 1) + ", " + desk.count(1) + ", " + desk.count(2);
                idle(desk, action);
                Check.due("action " + action + " changes nothing", Check.rows(desk, 0) + ", " + Check.rows(desk, 3) + ", " + Check.rows(desk, 1) + ", " + desk.count(1) + ", " + desk.count(2), before);
                Check.due("action " + action + " counts", desk.count(3), 2);
                Check.due("it is taken back ahead of the other", desk.undo() + " " + desk.row(5, 3), "1 1");
                Check.due("and then the other", desk.undo() + " " + desk.row(5, 3), "0 0");
            }
        });
    }

    private static void refused() {
        Sentence.holds("4", "A method that returns FULL or SINGULAR or throws an exception changes nothing, except as load() says.", () -> {
            for (int refusal = 0; refusal < 5; refusal++) {
                BitDesk desk = full();
                refuse(desk, refusal);
                Check.due("after the refusal " + refusal, Check.told(desk), Check.told(full()));
                for (int i = 7; i >= 0; i--) {
                    Check.due("undo after it", desk.undo() + " " + desk.row(5, 0), i + " " + (i + 1));
                }
            }
        });
        Sentence.holds("4", "If several exceptions apply, the one that is named first is thrown.", () -> {
            BitDesk desk = desk(4);
            for (int slot : new int[] {-1, 6}) {
                Check.dueThrow("rank", Check.INDEX, () -> desk.rank(slot, 0, 5));
                Check.dueThrow("rank, a row", Check.INDEX, () -> desk.rank(0, slot, -1));
                Check.dueThrow("combine, a", Check.INDEX, () -> desk.combine(slot, 0, 0, 4));
                Check.dueThrow("combine, b", Check.INDEX, () -> desk.combine(0, slot, 0, -1));
                Check.dueThrow("combine, to", Check.INDEX, () -> desk.combine(0, 0, slot, 4));
                Check.dueThrow("power, slot", Check.INDEX, () -> desk.power(slot, -1, 0, true));
                Check.dueThrow("power, to", Check.INDEX, () -> desk.power(0, 1000001, slot, true));
                Check.dueThrow("kept", Check.INDEX, () -> desk.kept(slot, 3));
            }
            Check.dueThrow("kept of what is not kept", Check.ARGUMENT, () -> desk.kept(5, 3));
        });
    }

    /** Eight actions, the first of nine no longer among them, a product, an output and a full buffer. */
    private static BitDesk full() {
        BitDesk desk = desk(4);
        desk.product(0, 1, 4, false);
        for (int i = 1; i <= 9; i++) {
            desk.setRow(5, 0, i);
        }
        desk.writeRow(0, 0);
        for (int i = 0; i < 75; i++) {
            desk.append(0x2020202020202020L);
        }
        return desk;
    }

    private static void refuse(BitDesk desk, int refusal) {
        switch (refusal) {
            case 0: Check.due("FULL", desk.append(32), -2); break;
            case 1: Check.due("SINGULAR", desk.invert(1, 0), -3); break;
            case 2: Check.dueThrow("put", Check.INDEX, () -> desk.put(0, 0, 4, true)); break;
            case 3: Check.dueThrow("combine", Check.ARGUMENT, () -> desk.combine(1, 2, 0, 4)); break;
            default: Check.dueThrow("power", Check.ARGUMENT, () -> desk.power(1, 1000001, 0, true));
        }
    }

    private static void ofThemselves() {
        Sentence.holds("4", "The slot that is made can be one of those it is made of: all is made of them as they were.", () -> {
            for (int action = 0; action < 12; action++) {
                for (int size : new int[] {1, 5, 32}) {
                    BitDesk desk = Check.desk("size " + size + ";fill 0 ring;fill 1 lower;fill 2 unit");
                    desk.combine(1, 2, 1, 1);
                    int answer = make(desk, action, 5);
                    BitDesk other = Check.desk("size " + size + ";fill 0 ring;fill 1 lower;fill 2 unit");
                    other.combine(1, 2, 1, 1);
                    int to = action % 2 == 0 ? 0 : 1;
                    Check.due("action " + action + " to slot " + to, make(other, action, to), answer);
                    Check.due("what it made", Check.rows(other, to), Check.rows(desk, 5));
                }
            }
        });
    }

    /** Makes a slot of the slots 0 and 1; actions by twos. */
    private static int make(BitDesk desk, int action, int to) {
        switch (action / 2) {
            case 0: return desk.copy(action % 2, to);
            case 1: return desk.transpose(action % 2, to);
            case 2: return desk.combine(0, 1, to, 3 - action % 2);
            case 3: return desk.product(0, 1, to, action % 2 == 0);
            case 4: return desk.power(action % 2, 11, to, action % 2 == 0);
            default: return action % 2 == 0 ? desk.invert(0, to) : desk.close(1, to) * 2000 + desk.reduce(1, to);
        }
    }

    private static void constants() {
        Sentence.holds("4", "The constants: `NONE = -1`: There is no such thing.", () -> {
            Check.due("NONE", BitDesk.NONE, -1);
            Check.due("a one that is not there", desk(4).select(5, 0, 0), BitDesk.NONE);
        });
        Sentence.holds("4", "`FULL = -2`: A limit would be exceeded.", () -> {
            Check.due("FULL", BitDesk.FULL, -2);
            Check.due("a full buffer", full().append(1), BitDesk.FULL);
        });
        Sentence.holds("4", "`SINGULAR = -3`: A matrix has no inverse.", () -> {
            Check.due("SINGULAR", BitDesk.SINGULAR, -3);
            Check.due("an empty matrix", desk(4).invert(5, 5), BitDesk.SINGULAR);
        });
        Sentence.holds("4", "`NO_VALUE = -1L`: There is no such value.", () -> {
            Check.due("NO_VALUE", BitDesk.NO_VALUE, -1L);
            Check.due("no solution", desk(4).solve(5, 1), BitDesk.NO_VALUE);
        });
    }

    private static void rowsAndBits() {
        Sentence.holds("Promise 40", "Sets a bit of a matrix (an action).", () -> {
            BitDesk desk = desk(32);
            desk.put(5, 31, 31, true);
            desk.put(5, 0, 0, true);
            desk.put(5, 0, 31, true);
            desk.put(5, 0, 31, true);
            Check.due("the corners", desk.row(5, 0) + " " + desk.row(5, 31), "2147483649 2147483648");
            desk.put(5, 0, 31, false);
            desk.put(5, 0, 31, false);
            Check.due("the bit becomes 0, twice", desk.row(5, 0), 1L);
            Check.due("actions", desk.count(3), 6);
        });
        Sentence.holds("Promise 40", "Returns by how many ones the closure differs then (ones that came or went).", () -> {
            BitDesk desk = desk(32);
            Check.due("the ring opens", desk.put(0, 31, 0, false), 528);
            Check.due("no change", desk.put(0, 31, 0, false), 0);
            Check.due("the ring closes", desk.put(0, 31, 0, true), 528);
            Check.due("no change", desk.put(0, 31, 0, true), 0);
            Check.due("a bit that changes no closure", desk.put(0, 5, 9, true) + " " + desk.put(0, 5, 9, false), "0 0");
            Check.due("the first and the last one", desk.put(5, 31, 31, true) + " " + desk.put(5, 31, 31, false), "1 1");
            BitDesk one = desk(1);
            Check.due("of one", one.put(5, 0, 0, true) + " " + one.put(5, 0, 0, false), "1 1");
        });
        Sentence.holds("Promise 41", "Returns how many bits of the row have changed.", () -> {
            BitDesk desk = desk(32);
            Check.due("all", desk.setRow(5, 31, 4294967295L), 32);
            Check.due("none", desk.setRow(5, 31, 4294967295L), 0);
            Check.due("the last one", desk.setRow(5, 31, 2147483647L), 1);
            Check.due("all but the last one", desk.setRow(5, 31, 0L), 31);
        });
        Sentence.holds("Promise 41", "`bits`: the row as row(int, int) tells it; only the lowest N bits count", () -> {
            Check.due("all bits for 32", desk(32).setRow(5, 0, -1L), 32);
            Check.due("the bit 32 for 32", desk(32).setRow(1, 0, 1L << 32), 32);
            BitDesk three = desk(3);
            Check.due("bits for three", three.setRow(5, 2, 0b11101) + " " + three.row(5, 2), "2 5");
            BitDesk one = desk(1);
            Check.due("bits for one", one.setRow(5, 0, -2L) + " " + one.setRow(5, 0, -1L) + " " + one.row(5, 0), "0 1 1");
        });
        Sentence.holds("Promise 41", "Sets a row of a matrix (an action).", () -> {
            BitDesk desk = desk(32);
            desk.setRow(5, 0, 1L << 31);
            desk.setRow(5, 31, 1L);
            Check.due("the first and the last row", Check.rows(desk, 5), "2147483648" + " 0".repeat(30) + " 1");
            Check.due("its closure", desk.pairs(5), 4);
        });
    }

    private static void copies() {
        Sentence.holds("Promise 42", "Copies a matrix to a slot (an action).", () -> {
            BitDesk desk = desk(32);
            Check.due("all over nothing, nothing over all", desk.copy(1, 5) + " " + desk.copy(4, 1) + " " + desk.ones(5), "1024 1 1024");
            Check.due("to itself", desk.copy(0, 0) + " " + desk.row(0, 31), "32 1");
        });
        Sentence.holds("Promise 43", "Makes the transposed matrix (an action).", () -> {
            BitDesk desk = desk(32);
            Check.due("of lower", desk.transpose(2, 5) + " " + desk.row(5, 0) + " " + desk.row(5, 31), "496 4294967294 0");
            Check.due("of a ring", desk.transpose(0, 0) + " " + desk.row(0, 0) + " " + desk.row(0, 31), "32 2147483648 1073741824");
            Check.due("of one", desk(1).transpose(0, 5), 1);
        });
        Sentence.holds("Promise 44", "Combines two matrices bit by bit (an action).", () -> {
            String[] due = {"0 0", "1 1", "1 1", "0 1"};
            for (int how = 0; how < 4; how++) {
                BitDesk desk = desk(1);
                Check.due("nothing and all, " + how, desk.combine(5, 0, 4, how) + " " + desk.combine(0, 5, 4, how), due[how]);
                Check.due("the same, " + how, desk(32).combine(1, 1, 5, how), how < 2 ? 1024 : 0);
            }
            Check.dueThrow("how -1", Check.ARGUMENT, () -> desk(4).combine(0, 0, 0, -1));
            Check.dueThrow("how 4", Check.ARGUMENT, () -> desk(4).combine(0, 0, 0, 4));
        });
        Sentence.holds("Promise 50", "Returns how many bits of the matrix have changed.", () -> {
            BitDesk desk = desk(32);
            Check.due("the same node", desk.exchange(0, 31, 31) + " " + desk.exchange(0, 0, 0), "0 0");
            Check.due("all are the same", desk.exchange(1, 0, 31) + " " + desk.exchange(5, 0, 31), "0 0");
            Check.due("the corner goes to the other one", desk.exchange(4, 0, 31) + " " + desk.row(4, 0) + " " + desk.row(4, 31), "2 1 0");
            Check.due("back, named the other way", desk.exchange(4, 31, 0) + " " + desk.row(4, 31), "2 2147483648");
            Check.due("an edge between them", Check.desk("size 2;edge 0 0 1").exchange(0, 0, 1), 2);
            Check.due("edges to themselves and between them", Check.desk("size 2;edge 0 0 1;edge 0 1 1").exchange(0, 0, 1), 4);
            Check.due("of one", desk(1).exchange(0, 0, 0), 0);
        });
        Sentence.holds("Promise 50", "Lets two nodes change their places: rows and columns (an action).", () -> {
            BitDesk desk = Check.desk("size 4;edge 0 0 1;edge 0 3 0;edge 0 2 2");
            desk.exchange(0, 0, 2);
            Check.due("rows and columns", Check.rows(desk, 0), "1 0 2 4");
        });
    }

    private static void products() {
        Sentence.holds("3", "In the product of A and B the row r is what is joined, by or, or over the field by exclusive or, of all rows c of B for which A has a one in row r and column c.", () -> {
            BitDesk desk = desk(32);
            Check.due("no row", desk.product(5, 1, 4, true) + " " + desk.product(5, 1, 4, false), "0 0");
            Check.due("all rows, twice each, over the field", desk.product(1, 1, 4, true), 0);
            Check.due("all rows by or", desk.product(1, 1, 4, false), 1024);
            Check.due("the last row alone", desk.product(0, 2, 4, true) + " " + desk.row(4, 30) + " " + desk.row(4, 31), "496 2147483647 0");
            BitDesk odd = desk(31);
            Check.due("an odd number of rows over the field", odd.product(1, 1, 4, true), 961);
            BitDesk one = desk(1);
            Check.due("of one", one.product(0, 1, 5, true) + " " + one.product(0, 4, 5, false) + " " + one.product(2, 0, 5, true), "1 1 0");
        });
        Sentence.holds("Promise 45", "Makes the product of two matrices by blocks (section 3; an action).", () -> {
            for (int block = 1; block <= 8; block++) {
                for (int size : new int[] {1, 7, 8, 9, 32}) {
                    BitDesk desk = desk(size);
                    desk.setBlock(block);
                    desk.product(0, 2, 4, true);
                    desk.product(0, 2, 5, false);
                    Check.due("blocks of " + block + " of " + size, Check.rows(desk, 4), Check.rows(desk, 5));
                    Check.due("the last row is the first of lower", desk.row(4, size - 1), 0L);
                    Check.due("the first row is the second of lower", desk.row(4, 0), size == 1 ? 0L : 1L);
                }
            }
        });
        Sentence.holds("Promise 46", "the power 0 has ones in its diagonal alone.", () -> {
            for (int slot = 0; slot < 6; slot++) {
                BitDesk desk = desk(32);
                Check.due("the power 0 of slot " + slot, desk.power(slot, 0, 4, slot % 2 == 0), 32);
                Check.due("its rows", Check.rows(desk, 4), Check.rows(desk, 3));
            }
            Check.due("of one that is nothing", desk(1).power(5, 0, 5, true), 1);
        });
        Sentence.holds("3", "A power is made from the unit matrix: for each bit of the exponent, from the highest one that is 1 on", () -> {
            BitDesk desk = desk(7);
            for (int exponent : new int[] {1, 2, 3, 6, 7, 8, 524287, 524288, 999999, 1000000}) {
                desk.power(0, exponent, 5, exponent % 2 == 0);
                Check.due("power " + exponent, desk.row(5, 0), 1L << exponent % 7);
                Check.due("its last row", desk.row(5, 6), 1L << (exponent + 6) % 7);
            }
            Check.due("power 31 and 32 of lower", desk(32).power(2, 31, 5, false) + " " + desk(32).power(2, 32, 5, false), "1 0");
            Check.dueThrow("power -1", Check.ARGUMENT, () -> desk.power(0, -1, 5, true));
            Check.dueThrow("power 1000001", Check.ARGUMENT, () -> desk.power(0, 1000001, 5, true));
        });
    }

    private static void closures() {
        Sentence.holds("Promise 48", "Makes the closure of a matrix (an action).", () -> {
            BitDesk desk = desk(32);
            Check.due("of a ring", desk.close(0, 4), 1024);
            Check.due("of nothing", desk.close(5, 4), 0);
            Check.due("of unit, to itself", desk.close(3, 3), 32);
            desk.put(0, 31, 0, false);
            Check.due("of a way, to itself", desk.close(0, 0) + " " + desk.row(0, 0) + " " + desk.row(0, 31), "496 4294967294 0");
            Check.due("of one", desk(1).close(0, 5) + " " + desk(1).close(5, 0), "1 0");
        });
        Sentence.holds("Promise 49", "by rows, then by columns, each edge goes without which the closure is the same as with it, by what is left then (an action).", () -> {
            BitDesk desk = desk(32);
            Check.due("nothing goes", desk.reduce(0, 4) + " " + desk.reduce(3, 4) + " " + desk.reduce(5, 4), "32 32 0");
            Check.due("all but a way", desk.reduce(2, 4) + " " + desk.row(4, 31) + " " + desk.row(4, 1), "31 1073741824 1");
            desk.reduce(1, 4);
            Check.due("of all 32 the last columns stay", desk.row(4, 0) + " " + desk.row(4, 30) + " " + desk.row(4, 31), "2147483648 2147483648 2147483647");
            Check.due("of all, by what is left", desk(3).reduce(1, 5), 4);
            BitDesk small = desk(3);
            small.reduce(1, 1);
            Check.due("its rows, the first edges went first", Check.rows(small, 1), "4 4 3");
            BitDesk two = desk(2);
            two.reduce(1, 1);
            Check.due("an edge to itself goes if there is a way round", Check.rows(two, 1), "2 1");
            Check.due("the only edge stays", desk(1).reduce(0, 5), 1);
        });
    }

    private static void settings() {
        Sentence.holds("Promise 51", "Returns how many slots are kept then.", () -> {
            BitDesk desk = Check.desk("size 4");
            Check.due("none", desk.keep(0, false), 0);
            for (int slot = 5; slot >= 0; slot--) {
                Check.due("slot " + slot, desk.keep(slot, true), 6 - slot);
            }
            Check.due("one again", desk.keep(5, true), 6);
            Check.due("one less", desk.keep(5, false) + " " + desk.keep(5, false), "5 5");
            Check.due("one more", desk.keep(5, true), 6);
        });
        Sentence.holds("Promise 51", "Lets the closure of a slot be kept, or no longer (section 2; an action).", () -> {
            BitDesk desk = Check.desk("size 4");
            desk.keep(5, true);
            Check.due("kept", desk.kept(5, 0) + " " + desk.kept(4, 0), "4 -1");
            desk.keep(5, false);
            Check.due("no longer", desk.kept(5, 0) + " " + desk.count(3), "-1 2");
        });
        Sentence.holds("Promise 52", "Returns the previous value.", () -> {
            BitDesk desk = Check.desk("size 1;block 8");
            Check.due("from the greatest to the least", desk.setBlock(1) + " " + desk.setBlock(1) + " " + desk.setBlock(8) + " " + desk.count(1), "8 1 1 8");
        });
        Sentence.holds("Promise 52", "Sets BLOCK (an action).", () -> {
            BitDesk desk = Check.desk("size 1;block 8");
            Check.dueThrow("0", Check.ARGUMENT, () -> desk.setBlock(0));
            Check.dueThrow("9", Check.ARGUMENT, () -> desk.setBlock(9));
            Check.due("it is as it was", desk.count(1) + " " + desk.count(3), "8 0");
        });
    }
}
