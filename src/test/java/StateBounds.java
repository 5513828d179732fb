/** Boundary cases of the promises 53 to 59: kept numbers, work, output, undo, snapshots; with them sections 2 and 3. */
final class StateBounds {
    private StateBounds() {
    }

    static void test() {
        putsLook();
        othersLook();
        keptOrNot();
        broughtBack();
        work();
        output();
        undo();
        snapshots();
        lastCall();
    }

    private static void kept(BitDesk desk, String what, String want) {
        Check.due(what, Check.kept(desk, 0), want);
    }

    private static void putsLook() {
        Sentence.holds("2", "when a bit becomes 1 by put(int, int, int, boolean), the rows looked at are those of a and of all nodes that reach a (by the closure so far)", () -> {
            BitDesk desk = Check.desk("size 32;fill 0 ring;keep 0");
            desk.put(0, 5, 5, true);
            kept(desk, "all reach it, and it itself", "32 64 1");
            BitDesk way = Check.desk("size 4;edge 0 0 1;edge 0 1 2;keep 0");
            way.put(0, 3, 0, true);
            kept(way, "none reaches it", "1 5 1");
            way.put(0, 2, 2, true);
            kept(way, "three others reach it, and it itself only by the new edge", "4 9 1");
            way.put(0, 2, 3, true);
            kept(way, "it reaches itself, but counts once", "4 13 1");
            BitDesk cycle = Check.desk("size 4;edge 0 0 1;keep 0");
            cycle.put(0, 1, 0, true);
            kept(cycle, "by the closure so far, a cycle closes", "2 6 1");
            cycle.put(0, 3, 2, true);
            kept(cycle, "the nodes that b reaches do not count", "1 7 1");
        });
        Sentence.holds("2", "when a bit becomes 0, the rows of a and of all nodes that reach a (by the closure so far) are reckoned anew, and these are the rows looked at", () -> {
            BitDesk desk = Check.desk("size 32;fill 0 ring;keep 0");
            desk.put(0, 31, 0, false);
            kept(desk, "by the closure so far, the ring opens", "32 64 1");
            desk.put(0, 0, 1, false);
            kept(desk, "none reaches it", "1 65 1");
            BitDesk self = Check.desk("size 4;edge 0 2 2;edge 0 0 2;keep 0");
            self.put(0, 2, 2, false);
            kept(self, "it reached itself, and counts once", "2 6 1");
            self.put(0, 0, 2, false);
            kept(self, "the last edge", "1 7 1");
            Check.due("no node reaches any", self.pairs(0), 0);
        });
        Sentence.holds("2", "a put(int, int, int, boolean) that changes no bit looks at none.", () -> {
            BitDesk desk = Check.desk("size 4;fill 0 ring;keep 0");
            desk.put(0, 0, 1, true);
            kept(desk, "a bit that is 1", "0 4 1");
            desk.put(0, 0, 2, true);
            desk.put(0, 0, 0, false);
            kept(desk, "a bit that is 0", "0 8 1");
        });
    }

    private static void othersLook() {
        Sentence.holds("2", "By each other action that changes the slot's matrix (or can change it)", () -> {
            for (int action = 0; action < 12; action++) {
                BitDesk desk = Check.desk("size 5;fill 0 ring;fill 1 unit;keep 0;keep 1;keep 2");
                act(desk, action);
                kept(desk, "action " + action, "5 10 2");
                Check.due("the other slots after action " + action, Check.kept(desk, 1) + ", " + Check.kept(desk, 2), "5 5 1, 5 5 1");
                act(desk, action);
                kept(desk, "action " + action + " again", "5 15 3");
            }
            BitDesk desk = Check.desk("size 5;fill 0 ring;keep 0");
            desk.invert(2, 0);
            desk.setBlock(1);
            desk.copy(0, 3);
            desk.keep(1, true);
            desk.put(1, 0, 0, true);
            Check.dueThrow("a refused one", Check.INDEX, () -> desk.setRow(0, 5, 1));
            kept(desk, "those that cannot change it", "5 5 1");
        });
        Sentence.holds("2", "and by keep(int, boolean) with true, the closure is made anew, which looks at N rows (this counts in kept(int, int) 0 and 1, too).", () -> {
            BitDesk desk = Check.desk("size 32");
            desk.keep(0, true);
            kept(desk, "kept for the first time", "32 32 1");
            desk.keep(0, true);
            kept(desk, "though it is kept", "32 64 2");
            desk.keep(0, false);
            kept(desk, "not with false", "-1 -1 -1");
            desk.keep(0, false);
            desk.keep(0, true);
            kept(desk, "kept again", "32 96 3");
            BitDesk one = Check.desk("size 1");
            one.keep(0, true);
            kept(one, "one row", "1 1 1");
        });
    }

    /** Actions that can change the slot 0, most of them without a change. */
    private static void act(BitDesk desk, int action) {
        switch (action) {
            case 0: desk.setRow(0, 0, 2L); break;
            case 1: desk.setRow(0, 4, 31L); break;
            case 2: desk.copy(0, 0); break;
            case 3: desk.transpose(1, 0); break;
            case 4: desk.combine(0, 0, 0, 0); break;
            case 5: desk.product(1, 0, 0, true); break;
            case 6: desk.power(0, 1, 0, false); break;
            case 7: desk.power(2, 0, 0, true); break;
            case 8: desk.invert(1, 0); break;
            case 9: desk.close(2, 0); break;
            case 10: desk.reduce(0, 0); break;
            default: desk.exchange(0, 3, 3);
        }
    }

    /** A desk with the slot's rows alone, whose closure was never told. */
    private static int freshPairs(BitDesk desk, int slot) {
        BitDesk fresh = Check.desk("size " + desk.count(0));
        for (int row = 0; row < desk.count(0); row++) {
            fresh.setRow(0, row, desk.row(slot, row));
        }
        return fresh.pairs(0);
    }

    private static void actOrSet(BitDesk desk, int action) {
        switch (action) {
            case 12: desk.put(0, 1, 4, true); break;
            case 13: desk.put(0, 4, 3, false); break;
            case 14: desk.keep(action % 2, false); break;
            case 15: desk.setBlock(8); break;
            default: act(desk, action);
        }
    }

    private static void keptOrNot() {
        Sentence.holds("2", "By each other action that changes the slot's matrix (or can change it), and by keep(int, boolean) with true, the closure is made anew", () -> {
            for (int action = 0; action < 12; action++) {
                BitDesk desk = Check.desk("size 5;edge 0 0 1;edge 0 1 2;edge 0 4 3;fill 1 unit;fill 2 lower");
                int before = desk.pairs(0);
                act(desk, action);
                Check.due("the closure after action " + action, desk.pairs(0), freshPairs(desk, 0));
                desk.undo();
                Check.due("the closure after its undo", desk.pairs(0), before);
                desk.exchange(0, 0, 3);
                Check.due("the closure after exchange", desk.reached(0, 3) + " " + desk.reached(0, 4) + " " + desk.reached(0, 0), "2 1 0");
            }
        });
        Sentence.holds("2", "The closure of a slot that is kept goes on with the matrix", () -> {
            for (String text : new String[] {"size 5;keep 0", "size 5"}) {
                BitDesk desk = Check.desk(text);
                Check.due("nothing", desk.pairs(0), 0);
                Check.due("an edge", desk.put(0, 1, 2, true) + " " + desk.reached(0, 1), "1 1");
                Check.due("an edge ahead", desk.put(0, 0, 1, true) + " " + desk.reached(0, 0) + " " + desk.pairs(0), "2 2 3");
                Check.due("an edge behind", desk.put(0, 2, 3, true) + " " + desk.reached(0, 0) + " " + desk.pairs(0), "3 3 6");
                Check.due("one more way", desk.put(0, 0, 4, true) + " " + desk.reached(0, 0) + " " + desk.pairs(0), "1 4 7");
                Check.due("a cycle", desk.put(0, 3, 1, true) + " " + desk.reached(0, 0) + " " + desk.pairs(0), "6 4 13");
                Check.due("undo", desk.undo() + " " + desk.pairs(0) + " " + desk.reaches(0, 3, 3), "4 7 0");
                Check.due("an edge goes", desk.put(0, 1, 2, false) + " " + desk.reached(0, 0) + " " + desk.pairs(0), "4 2 3");
                Check.due("undo", desk.undo() + " " + desk.pairs(0) + " " + desk.reaches(0, 0, 3), "4 7 1");
            }
        });
        Sentence.holds("2", "What is told of a closure does not hang on whether it is kept.", () -> {
            BitDesk desk = Check.desk("size 6;fill 0 lower;fill 1 lower;keep 0");
            int[] edges = {5, 30, 25, 30, 7, 5, 35, 6, 6, 31, 0, 5};
            for (int i = 0; i < edges.length; i++) {
                int a = edges[i] / 6;
                int b = edges[i] % 6;
                boolean bit = desk.bit(0, a, b) == 0;
                Check.due("put", desk.put(1, a, b, bit), desk.put(0, a, b, bit));
                Check.due("pairs", desk.pairs(1), desk.pairs(0));
                Check.due("components", desk.components(1), desk.components(0));
                for (int node = 0; node < 6; node++) {
                    Check.due("reached", desk.reached(1, node), desk.reached(0, node));
                }
                desk.keep(0, i % 2 == 1);
            }
        });
        Sentence.holds("Promise 53", "1 by all changes, 2 how often it was made anew (section 2), 1 and 2 since load(), also if it was not kept in between", () -> {
            BitDesk desk = Check.desk("size 4;keep 0");
            desk.put(0, 0, 1, true);
            desk.keep(0, false);
            desk.put(0, 1, 2, true);
            desk.setRow(0, 3, 1L);
            desk.keep(0, true);
            kept(desk, "kept in two parts", "4 9 2");
            Check.load(desk, "size 3;keep 0");
            kept(desk, "since load", "3 3 1");
            Check.load(desk, "size 3");
            desk.keep(0, true);
            kept(desk, "since load, kept later", "3 3 1");
        });
        Sentence.holds("Promise 53", "Returns the number; NONE if it is not kept.", () -> {
            BitDesk desk = Check.desk("size 4;keep 5");
            kept(desk, "not kept", "-1 -1 -1");
            Check.due("kept", Check.kept(desk, 5), "4 4 1");
            desk.keep(5, false);
            Check.due("no longer", Check.kept(desk, 5), "-1 -1 -1");
            Check.dueThrow("a number that is not there, of a slot that is not kept", Check.ARGUMENT, () -> desk.kept(0, 3));
            Check.dueThrow("a number that is not there", Check.ARGUMENT, () -> desk.kept(5, -1));
        });
    }

    private static void broughtBack() {
        Sentence.holds("2", "load() makes kept closures anew once, at its end; undo() and restoreSnapshot() bring their numbers back as they were.", () -> {
            BitDesk desk = Check.desk("size 4;keep 0;edge 0 0 1;row 0 1 1111;fill 0 ones;edge 0 2 2");
            kept(desk, "load", "4 4 1");
            desk.put(0, 0, 1, false);
            String before = Check.kept(desk, 0);
            desk.saveSnapshot(0);
            desk.put(0, 0, 1, true);
            desk.undo();
            kept(desk, "undo of put", before);
            desk.setRow(0, 0, 0L);
            desk.undo();
            kept(desk, "undo of another action", before);
            desk.keep(0, false);
            desk.undo();
            kept(desk, "undo of keep with false", before);
            desk.keep(0, true);
            desk.undo();
            kept(desk, "undo of keep with true", before);
            desk.setRow(0, 0, 0L);
            desk.keep(0, false);
            desk.restoreSnapshot(0);
            kept(desk, "restoreSnapshot", before);
            Check.due("the closure itself", desk.pairs(0), 16);
            Check.load(desk, "size 5");
            desk.restoreSnapshot(0);
            kept(desk, "restoreSnapshot after load", before);
        });
    }

    private static void work() {
        Sentence.holds("3", "It is made by blocks of BLOCK columns of A, one behind the other (the last one can have fewer).", () -> {
            int[][] due = {{1, 8, 1, 1}, {8, 8, 255, 8}, {9, 8, 256, 18}, {7, 8, 127, 7}, {32, 8, 1020, 128}, {32, 7, 523, 160}, {32, 1, 32, 1024}, {31, 2, 46, 496}, {5, 4, 16, 10}};
            for (int[] one : due) {
                BitDesk desk = Check.desk("size " + one[0] + ";fill 0 ones;block " + one[1]);
                desk.product(0, 0, 1, true);
                Check.due("N " + one[0] + ", BLOCK " + one[1], Check.work(desk), one[2] + " " + one[3]);
            }
        });
        Sentence.holds("3", "For each block with S columns, a table has an entry for each of the 2^S - 1 sets of them that are not empty, and for each row of A in which the block has a one, one entry is taken.", () -> {
            BitDesk desk = Check.desk("size 5;row 0 0 11000;row 0 1 00001;row 0 2 00110;row 0 3 01010;fill 1 ones;block 2");
            desk.product(0, 1, 2, false);
            Check.due("some rows", Check.work(desk), "7 5");
            desk.product(5, 1, 2, false);
            Check.due("no row", Check.work(desk), "7 0");
            desk.product(1, 5, 2, true);
            Check.due("all rows, of nothing", Check.work(desk), "7 15");
            desk.product(0, 1, 0, true);
            Check.due("of A as it was", Check.work(desk), "7 5");
        });
        Sentence.holds("Promise 54", "for a power, of its latest product (the power 0 makes none).", () -> {
            BitDesk desk = Check.desk("size 4;edge 0 0 1;edge 0 1 2;edge 0 2 3;block 4");
            desk.power(0, 0, 1, true);
            Check.due("the power 0, the first of all", Check.work(desk), "0 0");
            desk.power(0, 1, 1, true);
            Check.due("the power 1, unit by matrix", Check.work(desk), "15 4");
            desk.power(0, 2, 1, true);
            Check.due("the power 2, matrix by matrix", Check.work(desk), "15 3");
            desk.power(0, 3, 1, true);
            Check.due("the power 3, square by matrix", Check.work(desk), "15 2");
            desk.power(0, 4, 1, true);
            Check.due("the power 4, square by square", Check.work(desk), "15 2");
            desk.power(0, 0, 1, true);
            Check.due("the power 0 leaves it", Check.work(desk), "15 2");
            desk.undo();
            desk.undo();
            desk.undo();
            desk.power(0, 0, 1, true);
            Check.due("the power 0 leaves what undo brought back", Check.work(desk), "15 3");
            Check.load(desk, "size 4");
            desk.power(0, 0, 1, true);
            Check.due("the power 0 behind load", Check.work(desk), "0 0");
        });
        Sentence.holds("Promise 54", "load() makes it 0, undo() and restoreSnapshot() bring it back.", () -> {
            BitDesk desk = Check.desk("size 4;fill 0 ones");
            desk.product(0, 0, 1, true);
            desk.saveSnapshot(0);
            desk.setBlock(1);
            desk.product(5, 0, 1, true);
            Check.due("the later one", Check.work(desk), "4 0");
            desk.undo();
            Check.due("undo", Check.work(desk), "15 4");
            desk.undo();
            Check.due("undo of setBlock", Check.work(desk), "15 4");
            desk.undo();
            Check.due("undo of the first", Check.work(desk), "0 0");
            desk.restoreSnapshot(0);
            Check.due("restoreSnapshot", Check.work(desk), "15 4");
            Check.load(desk, "size 4;x");
            Check.due("load with an error", Check.work(desk), "15 4");
            Check.load(desk, "size 4");
            Check.due("load", Check.work(desk), "0 0");
        });
        Sentence.holds("Promise 54", "Returns the number; 0 if there was none.", () -> {
            BitDesk desk = new BitDesk();
            Check.due("at first", Check.work(desk), "0 0");
            desk.power(0, 0, 0, false);
            desk.close(0, 1);
            desk.invert(0, 1);
            desk.combine(0, 1, 2, 0);
            Check.due("by what makes none", Check.work(desk), "0 0");
            Check.dueThrow("work 2", Check.ARGUMENT, () -> desk.work(2));
            Check.dueThrow("work -1", Check.ARGUMENT, () -> desk.work(-1));
        });
    }

    private static void output() {
        Sentence.holds("Promise 55", "Writes a row to the output as N signs 0 and 1, column 0 first, in place of what it had.", () -> {
            BitDesk desk = Check.desk("size 32;edge 0 0 0;edge 0 31 31");
            desk.writeRow(0, 31);
            Check.due("the last column", Check.output(desk), "0".repeat(31) + "1");
            desk.writeRow(0, 0);
            Check.due("the first column", Check.output(desk), "1" + "0".repeat(31));
            desk.saveSnapshot(0);
            Check.load(desk, "size 1");
            desk.writeRow(0, 0);
            Check.due("of one", Check.output(desk), "0");
            desk.restoreSnapshot(0);
            Check.due("a restored snapshot leaves it", Check.output(desk), "0");
            desk.writeRow(0, 1);
            Check.due("a longer one", Check.output(desk), "0".repeat(32));
            BitDesk small = Check.desk("size 2;fill 0 unit");
            small.saveSnapshot(0);
            Check.load(small, "size 5;fill 0 ones");
            Check.due("a row of five", small.writeRow(0, 0) + " " + Check.output(small), "5 11111");
            small.restoreSnapshot(0);
            Check.due("a shorter one", small.writeRow(0, 1) + " " + Check.output(small), "2 01");
        });
        Sentence.holds("Promise 55", "Returns the length of the output.", () -> {
            Check.due("of one", Check.desk("size 1").writeRow(5, 0), 1);
            BitDesk desk = Check.desk("size 32");
            Check.due("of 32, twice", desk.writeRow(0, 31) + " " + desk.writeRow(5, 0), "32 32");
        });
        Sentence.holds("Promise 56", "Returns the byte; NONE if there is none.", () -> {
            BitDesk desk = Check.desk("size 3;row 0 0 101");
            for (int index : new int[] {0, 1, -1, Integer.MAX_VALUE, Integer.MIN_VALUE}) {
                Check.due("nothing is written, byte " + index, desk.outputByte(index), -1);
            }
            desk.writeRow(0, 0);
            Check.due("the bytes", desk.outputByte(0) + " " + desk.outputByte(1) + " " + desk.outputByte(2), "49 48 49");
            for (int index : new int[] {3, 31, 32, -1, Integer.MAX_VALUE, Integer.MIN_VALUE}) {
                Check.due("byte " + index, desk.outputByte(index), -1);
            }
            Check.dueThrow("a refused row", Check.INDEX, () -> desk.writeRow(0, 3));
            Check.due("the output stays", Check.output(desk), "101");
        });
    }

    private static void undo() {
        Sentence.holds("Promise 57", "Takes the latest action back that was not taken back.", () -> {
            for (int action = 0; action < 16; action++) {
                BitDesk each = Check.desk("size 5;edge 0 0 1;edge 0 4 3;fill 1 unit;fill 2 lower;keep 0;block 3");
                each.product(2, 2, 3, false);
                String before = Check.told(each);
                actOrSet(each, action);
                Check.due("an action", each.count(3), 2);
                Check.due("undo of action " + action, each.undo() + " " + Check.told(each), "1 " + before);
            }
            BitDesk desk = Check.desk("size 8");
            for (int i = 1; i <= 11; i++) {
                desk.setRow(0, 0, i);
            }
            Check.due("three", desk.undo() + " " + desk.undo() + " " + desk.undo() + ": " + desk.row(0, 0), "7 6 5: 8");
            desk.setRow(0, 0, 100L);
            desk.setRow(0, 0, 101L);
            Check.due("two others", desk.undo() + " " + desk.row(0, 0) + ", " + desk.undo() + " " + desk.row(0, 0), "6 100, 5 8");
            Check.due("one more of the first ones", desk.undo() + " " + desk.row(0, 0), "4 7");
            for (int i = 1; i <= 20; i++) {
                desk.setRow(0, 0, 200 + i);
            }
            for (int i = 7; i >= 0; i--) {
                Check.due("undo behind many", desk.undo() + " " + desk.row(0, 0), i + " " + (213 + i - 1 & 255));
            }
        });
        Sentence.holds("Promise 57", "Returns how many can be taken back then; NONE, and nothing changes, if there is none.", () -> {
            BitDesk desk = Check.desk("size 4;fill 0 ring;keep 0");
            String before = Check.told(desk);
            Check.due("none", desk.undo() + " " + desk.undo(), "-1 -1");
            Check.due("nothing changes", Check.told(desk), before);
            desk.put(0, 0, 0, true);
            Check.due("one, then none", desk.undo() + " " + desk.undo() + " " + desk.undo(), "0 -1 -1");
            Check.due("nothing changes", Check.told(desk), before);
            for (int i = 0; i < 9; i++) {
                desk.put(0, 0, 0, i % 2 == 0);
            }
            Check.due("the latest of nine", desk.undo(), 7);
        });
    }

    private static void snapshots() {
        Sentence.holds("Promise 58", "Copies everything except the input buffer, the results of the latest load, the actions, the output and the snapshots to a snapshot.", () -> {
            BitDesk desk = Check.desk("size 4;fill 0 ring;fill 5 lower;keep 5;block 7");
            desk.product(0, 5, 1, false);
            desk.writeRow(0, 0);
            String before = Check.told(desk);
            Check.due("save", desk.saveSnapshot(0), 4);
            Check.due("nothing changes", Check.told(desk), before);
            Check.due("the actions stay", desk.undo() + " " + desk.ones(1), "0 0");
            desk.restoreSnapshot(0);
            Check.due("all but the actions is back", Check.told(desk), before.replace("4 7 1 1 work", "4 7 1 0 work"));
            Check.load(desk, "size 2;x");
            desk.append(32);
            desk.saveSnapshot(1);
            Check.load(desk, "size 1;block 9");
            desk.append(0x2020);
            desk.restoreSnapshot(1);
            Check.due("not the load", desk.loadError() + " " + desk.loadStatement() + " " + desk.append(0), "2 1 2");
        });
        Sentence.holds("Promise 58", "Returns N.", () ->
            Check.due("least and greatest", Check.desk("size 1").saveSnapshot(1) + " " + Check.desk("size 32").saveSnapshot(0), "1 32"));
        Sentence.holds("Promise 59", "Replaces everything by a copy of a snapshot, which stays; nothing can be taken back then.", () -> {
            BitDesk desk = Check.desk("size 4;fill 0 ring");
            desk.saveSnapshot(0);
            desk.put(0, 0, 0, true);
            desk.saveSnapshot(1);
            Check.due("restore", desk.restoreSnapshot(0) + " " + desk.ones(0) + " " + desk.undo() + " " + desk.count(3), "4 4 -1 0");
            desk.setRow(0, 1, 15L);
            Check.due("it stays", desk.restoreSnapshot(0) + " " + desk.ones(0) + " " + desk.undo(), "4 4 -1");
            Check.due("the other one stays, too", desk.restoreSnapshot(1) + " " + desk.ones(0), "4 5");
            desk.saveSnapshot(0);
            desk.setRow(0, 0, 0L);
            Check.due("a later one in its place", desk.restoreSnapshot(0) + " " + desk.ones(0), "4 5");
        });
        Sentence.holds("Promise 59", "Returns N; NONE if nothing was saved there.", () -> {
            BitDesk second = Check.desk("size 4");
            second.saveSnapshot(1);
            Check.due("saved in the second place alone", second.restoreSnapshot(0) + " " + second.restoreSnapshot(1), "-1 4");
            BitDesk desk = Check.desk("size 4;fill 0 ring;keep 0");
            desk.put(0, 0, 0, true);
            desk.saveSnapshot(0);
            String before = Check.told(desk);
            Check.due("nothing was saved", desk.restoreSnapshot(1), -1);
            Check.due("nothing changes", Check.told(desk), before);
            Check.due("the action can be taken back", desk.undo(), 0);
            Check.due("the other one", desk.restoreSnapshot(0), 4);
            Check.load(desk, "size 32");
            desk.saveSnapshot(1);
            Check.due("N of each", desk.restoreSnapshot(0) + " " + desk.restoreSnapshot(1), "4 32");
        });
    }

    private static void lastCall() {
        Sentence.holds("What it is", "An object is used for at most 512 calls after it has been made", () -> {
            BitDesk desk = new BitDesk();
            for (int call = 0; call < 510; call++) {
                desk.setRow(0, call % 8, call + 1);
            }
            Check.due("the 511th call", desk.undo(), 7);
            Check.due("the 512th call", desk.row(0, 508 % 8), 509 & 255L);
        });
    }
}
