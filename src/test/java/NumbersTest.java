/** Promises 53 and 54: the numbers of kept closures and of products. */
final class NumbersTest {
    public static void main(String[] args) {
        keptByPut();
        keptByOthers();
        keptInBetween();
        keptAndTold();
        keptWrongly();
        workOfProducts();
        workOfPowers();
        workBroughtBack();
        Check.end("NumbersTest");
    }

    private static void keptByPut() {
        BitDesk desk = Check.desk("size 6;edge 0 0 1;edge 0 1 2;edge 0 4 4;keep 0");
        Check.due("at first", Check.kept(desk, 0), "6 6 1");
        desk.put(0, 2, 3, true);
        Check.due("an edge behind three nodes", Check.kept(desk, 0), "3 9 1");
        desk.put(0, 2, 3, true);
        Check.due("no change", Check.kept(desk, 0), "0 9 1");
        desk.put(0, 3, 0, true);
        Check.due("a cycle closes, by the closure so far", Check.kept(desk, 0), "4 13 1");
        desk.put(0, 5, 0, true);
        Check.due("a node that none reaches", Check.kept(desk, 0), "1 14 1");
        desk.put(0, 0, 1, false);
        Check.due("a cycle opens, by the closure so far", Check.kept(desk, 0), "5 19 1");
        desk.put(0, 4, 4, false);
        Check.due("a node that reaches itself counts once", Check.kept(desk, 0), "1 20 1");
        desk.put(0, 4, 4, false);
        Check.due("no change", Check.kept(desk, 0), "0 20 1");
        desk.put(1, 0, 1, true);
        Check.due("another slot", Check.kept(desk, 0), "0 20 1");
        Check.due("the other slot", Check.kept(desk, 1), "-1 -1 -1");
    }

    private static void keptByOthers() {
        BitDesk desk = Check.desk("size 4;fill 0 unit;keep 1;keep 0");
        int times = 1;
        String[] names = {"setRow", "setRow again", "copy", "copy to itself", "transpose", "combine", "product", "power", "invert", "close", "reduce", "exchange", "exchange of one", "keep"};
        for (int i = 0; i < names.length; i++) {
            desk.put(1, 0, 0, desk.bit(1, 0, 0) == 1);
            act(desk, i);
            times++;
            Check.due(names[i], Check.kept(desk, 1), "4 " + 4 * times + " " + times);
        }
        Check.due("the slot they are made of", Check.kept(desk, 0), "4 4 1");
        desk.setBlock(2);
        desk.saveSnapshot(0);
        desk.writeRow(1, 1);
        desk.lost(1, 0, 1);
        Check.due("no change of the matrix", Check.kept(desk, 1), "4 " + 4 * times + " " + times);
    }

    private static void act(BitDesk desk, int which) {
        switch (which) {
            case 0: case 1: desk.setRow(1, 0, 3); break;
            case 2: desk.copy(0, 1); break;
            case 3: desk.copy(1, 1); break;
            case 4: desk.transpose(0, 1); break;
            case 5: desk.combine(0, 0, 1, 1); break;
            case 6: desk.product(0, 0, 1, true); break;
            case 7: desk.power(0, 0, 1, true); break;
            case 8: desk.invert(0, 1); break;
            case 9: desk.close(0, 1); break;
            case 10: desk.reduce(0, 1); break;
            case 11: desk.exchange(1, 0, 1); break;
            case 12: desk.exchange(1, 2, 2); break;
            default: desk.keep(1, true);
        }
    }

    private static void keptInBetween() {
        BitDesk desk = Check.desk("size 3;edge 0 0 1");
        Check.due("not kept", Check.kept(desk, 0), "-1 -1 -1");
        desk.keep(0, true);
        desk.put(0, 1, 2, true);
        Check.due("kept", Check.kept(desk, 0), "2 5 1");
        desk.keep(0, false);
        Check.due("kept no longer", Check.kept(desk, 0), "-1 -1 -1");
        desk.put(0, 2, 0, true);
        desk.setRow(0, 0, 7);
        desk.keep(0, true);
        Check.due("kept again", Check.kept(desk, 0), "3 8 2");
        Check.due("its closure", desk.pairs(0), 9);
        desk.undo();
        desk.undo();
        desk.undo();
        desk.undo();
        Check.due("taken back", Check.kept(desk, 0), "2 5 1");
        desk.saveSnapshot(0);
        desk.copy(1, 0);
        Check.due("made anew", Check.kept(desk, 0), "3 8 2");
        desk.restoreSnapshot(0);
        Check.due("brought back", Check.kept(desk, 0), "2 5 1");
        Check.due("its closure", desk.pairs(0), 3);
        Check.load(desk, "size 3");
        desk.keep(0, true);
        Check.due("since load", Check.kept(desk, 0), "3 3 1");
    }

    /** What is told of a closure does not hang on whether it is kept. */
    private static void keptAndTold() {
        BitDesk desk = Check.desk("size 7;keep 0");
        long seed = 1;
        for (int i = 0; i < 100; i++) {
            seed = seed * 6364136223846793005L + 1442695040888963407L;
            int a = (int) (seed >>> 33) % 7;
            int b = (int) (seed >>> 40) % 7;
            boolean bit = (seed >>> 60) % 3 != 0;
            Check.due("put", desk.put(1, a, b, bit), desk.put(0, a, b, bit));
            Check.due("pairs", desk.pairs(1), desk.pairs(0));
        }
    }

    private static void keptWrongly() {
        BitDesk desk = Check.desk("size 3;keep 0");
        Check.dueThrow("kept -1", Check.ARGUMENT, () -> desk.kept(0, -1));
        Check.dueThrow("kept 3", Check.ARGUMENT, () -> desk.kept(0, 3));
        Check.dueThrow("kept 3 of what is not kept", Check.ARGUMENT, () -> desk.kept(1, 3));
        Check.dueThrow("kept of slot -1", Check.INDEX, () -> desk.kept(-1, 0));
        Check.dueThrow("kept of slot 6, slot first", Check.INDEX, () -> desk.kept(6, 3));
        Check.dueThrow("work -1", Check.ARGUMENT, () -> desk.work(-1));
        Check.dueThrow("work 2", Check.ARGUMENT, () -> desk.work(2));
    }

    private static void workOfProducts() {
        BitDesk desk = Check.desk("size 5;row 0 0 10001;row 0 1 11000;row 0 3 00110;fill 1 ones;block 2");
        Check.due("no product", Check.work(desk), "0 0");
        desk.product(0, 1, 2, false);
        Check.due("blocks of 2, 2 and 1", Check.work(desk), "7 4");
        desk.product(1, 0, 2, true);
        Check.due("all blocks of all rows", Check.work(desk), "7 15");
        desk.product(5, 1, 2, true);
        Check.due("no rows", Check.work(desk), "7 0");
        desk.setBlock(8);
        desk.product(0, 1, 2, false);
        Check.due("one block of 5", Check.work(desk), "31 3");
        desk.setBlock(1);
        desk.product(0, 1, 2, false);
        Check.due("blocks of 1", Check.work(desk), "5 6");
        desk.setBlock(3);
        desk.product(0, 1, 0, false);
        Check.due("by the matrix as it was", Check.work(desk), "10 5");
        BitDesk great = Check.desk("size 32;fill 0 ones;block 8");
        great.product(0, 0, 1, true);
        Check.due("of 32", Check.work(great), 4 * 255 + " 128");
        great.setBlock(7);
        great.product(0, 0, 1, true);
        Check.due("of 32 by 7", Check.work(great), (4 * 127 + 15) + " 160");
    }

    private static void workOfPowers() {
        BitDesk desk = Check.desk("size 4;row 0 0 0111;row 0 1 0011;row 0 2 0001;block 2");
        desk.power(0, 0, 1, false);
        Check.due("power 0", Check.work(desk), "0 0");
        desk.power(0, 1, 1, false);
        Check.due("power 1: the unit by the matrix", Check.work(desk), "6 4");
        desk.power(0, 2, 1, false);
        Check.due("power 2: the matrix by itself", Check.work(desk), "6 4");
        desk.power(0, 3, 1, false);
        Check.due("power 3: the power 2 by the matrix", Check.work(desk), "6 2");
        desk.power(0, 3, 1, true);
        Check.due("power 3 over the field", Check.work(desk), "6 2");
        desk.power(0, 4, 1, false);
        Check.due("power 4: the power 2 by itself", Check.work(desk), "6 2");
        desk.power(0, 5, 1, false);
        Check.due("power 5: the power 4 by the matrix", Check.work(desk), "6 0");
        desk.product(0, 0, 1, false);
        desk.power(0, 0, 1, false);
        Check.due("power 0 makes none", Check.work(desk), "6 4");
        desk.copy(0, 1);
        desk.close(0, 1);
        desk.invert(1, 1);
        Check.due("others make none", Check.work(desk), "6 4");
    }

    private static void workBroughtBack() {
        BitDesk desk = Check.desk("size 4;fill 0 ones;block 2");
        desk.product(0, 0, 1, false);
        desk.saveSnapshot(1);
        desk.setBlock(4);
        desk.product(0, 1, 1, false);
        Check.due("the later one", Check.work(desk), "15 4");
        desk.undo();
        Check.due("taken back", Check.work(desk), "6 8");
        desk.power(0, 0, 1, false);
        Check.due("power 0 leaves it so", Check.work(desk), "6 8");
        desk.product(0, 1, 1, false);
        desk.restoreSnapshot(1);
        Check.due("brought back", Check.work(desk), "6 8");
        Check.load(desk, "size 4;");
        Check.due("not by an error", Check.work(desk), "6 8");
        Check.load(desk, "size 4");
        Check.due("load", Check.work(desk), "0 0");
    }
}
