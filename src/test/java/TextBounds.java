/** Boundary cases of section 1 and of the promises 1 to 6: new objects, the input buffer, descriptions. */
final class TextBounds {
    private static final String GREAT_ONES = "11111111111111111111111111111111";

    private TextBounds() {
    }

    static void test() {
        slots();
        statements();
        runsAndSpaces();
        errors();
        order();
        newObject();
        append();
        load();
        loadResults();
    }

    private static void text(String text, String want) {
        Check.due("load of '" + text + "'", Check.loaded(text), want);
    }

    private static void slots() {
        Sentence.holds("1", "There are 6 slots, numbered from 0, each with a matrix of N rows and N columns, numbered from 0, all 0 at first.", () -> {
            for (int size : new int[] {1, 8, 32}) {
                BitDesk desk = Check.desk("size " + size);
                for (int slot = 0; slot < 6; slot++) {
                    Check.due("ones of slot " + slot, desk.ones(slot), 0);
                    Check.due("the last bit", desk.bit(slot, size - 1, size - 1), 0);
                }
                Check.dueThrow("slot 6", Check.INDEX, () -> desk.bit(6, 0, 0));
                Check.dueThrow("slot -1", Check.INDEX, () -> desk.bit(-1, 0, 0));
                Check.dueThrow("row N", Check.INDEX, () -> desk.bit(0, size, 0));
                Check.dueThrow("column N", Check.INDEX, () -> desk.bit(0, 0, size));
            }
        });
        Sentence.holds("1", "A new object is as by the text \"size 8\".", () ->
            Check.due("a new object", Check.told(new BitDesk()), Check.told(Check.desk("size 8"))));
        Sentence.holds("1", "A description is a list of one or more statements, separated by semicolons", () -> {
            text("", "-100 1 0");
            text(" ", "-101 1 0");
            text(";", "-100 1 0");
            text("size 3", "3");
            text("size 3;keep 0", "3");
            text("size 3 keep 0", "-107 1 0");
            text("size 3;", "-107 1 1");
            text("size 3;;keep 0", "-107 1 1");
            text(";size 3", "-100 1 0");
            text("size 3,keep 0", "-106 1 0");
        });
    }

    private static void statements() {
        Sentence.holds("1", "size N - 1 to 32; it stands only there; the others may come in any order:", () -> {
            text("size 0", "-105 2 0");
            text("size 1", "1");
            text("size 32", "32");
            text("size 33", "-105 2 0");
            text("size 3;size 3", "-107 1 1");
            text("size 3;keep 0;size 3", "-114 1 2");
            text("keep 0;size 3", "-100 1 0");
            text("block 1", "-100 1 0");
            text("size 3;block 1;keep 0;fill 0 unit;row 0 0 111;edge 0 0 0", "3");
            text("size 3;edge 0 0 0;row 0 0 111;fill 0 unit;keep 0;block 1", "3");
        });
        Sentence.holds("1", "edge SLOT ROW COLUMN - 0 to 5, a row, a column: the bit becomes 1;", () -> {
            text("size 1;edge 5 0 0", "1");
            text("size 1;edge 6 0 0", "-112 2 1");
            text("size 1;edge 0 1 0", "-114 2 1");
            text("size 1;edge 0 0 1", "-116 2 1");
            text("size 32;edge 5 31 31", "32");
            text("size 32;edge 0 32 0", "-115 2 1");
            text("size 32;edge 0 0 32", "-117 2 1");
            BitDesk desk = Check.desk("size 32;edge 5 31 31;edge 5 31 31;edge 0 0 0");
            Check.due("the first and the last bit, the last one twice", desk.row(5, 31) + desk.row(0, 0), 2147483649L);
            Check.due("no other one", desk.ones(5) + desk.ones(0), 2);
        });
        Sentence.holds("1", "row SLOT ROW BITS - 0 to 5, a row, and N signs 0 or 1, the one of column 0 first: the row becomes these;", () -> {
            text("size 3;row 5 2 101", "3");
            text("size 3;row 6 2 101", "-111 2 1");
            text("size 3;row 5 3 101", "-113 2 1");
            text("size 3;row 5 2 10", "-115 2 1");
            text("size 3;row 5 2 1010", "-115 2 1");
            text("size 3;row 5 2 102", "-115 2 1");
            BitDesk desk = Check.desk("size 32;row 5 31 " + GREAT_ONES + ";row 0 0 1" + "0".repeat(31) + ";row 1 0 " + "0".repeat(31) + "1");
            Check.due("all signs 1", desk.row(5, 31), 4294967295L);
            Check.due("the first sign is of column 0", desk.row(0, 0), 1L);
            Check.due("the last sign is of column 31", desk.row(1, 0), 2147483648L);
            Check.due("a row becomes 0 again", Check.desk("size 1;row 0 0 1;row 0 0 0").ones(0), 0);
        });
        Sentence.holds("1", "ring (a one in each row in the next column, in the last row in the column 0)", () -> {
            Check.due("ring of 1", Check.rows(Check.desk("size 1;fill 0 ring"), 0), "1");
            Check.due("ring of 2", Check.rows(Check.desk("size 2;fill 0 ring"), 0), "2 1");
            Check.due("ring of 5", Check.rows(Check.desk("size 5;fill 0 ring"), 0), "2 4 8 16 1");
            BitDesk great = Check.desk("size 32;fill 5 ring");
            Check.due("ring of 32", great.row(5, 30) + great.row(5, 31), 2147483649L);
            Check.due("ones of it", great.ones(5), 32);
        });
        Sentence.holds("1", "fill SLOT KIND - one of the words unit (ones in the diagonal), ones (all are ones)", () -> {
            text("size 3;fill 5 unit", "3");
            text("size 3;fill 6 unit", "-112 2 1");
            text("size 3;fill 5 none", "-114 1 1");
            text("size 3;fill 5", "-113 1 1");
            BitDesk one = Check.desk("size 1;fill 0 unit;fill 1 ones;fill 2 ones;fill 2 lower");
            Check.due("of 1", one.ones(0) + "" + one.ones(1) + one.ones(2), "110");
            BitDesk great = Check.desk("size 32;fill 0 unit;fill 1 ones;fill 2 ones;fill 2 lower");
            Check.due("of 32", great.ones(0) + " " + great.ones(1) + " " + great.ones(2), "32 1024 496");
            Check.due("lower's last and first row", great.row(2, 31) + great.row(2, 0), 2147483647L);
        });
        Sentence.holds("1", "keep SLOT - the closure of the slot is kept;", () -> {
            text("size 3;keep 6", "-112 2 1");
            BitDesk desk = Check.desk("size 3;keep 5;keep 0");
            Check.due("kept slots", desk.count(2), 2);
            Check.due("kept", desk.kept(5, 0) + desk.kept(0, 0) + desk.kept(1, 0), 5);
            Check.due("all are kept", Check.desk("size 3;keep 5;keep 4;keep 3;keep 2;keep 1;keep 0").count(2), 6);
        });
        Sentence.holds("1", "block SIZE - 1 to 8: BLOCK (4 without it); of several the last one counts.", () -> {
            text("size 3;block 0", "-113 2 1");
            text("size 3;block 9", "-113 2 1");
            Check.due("least", Check.desk("size 3;block 1").count(1), 1);
            Check.due("greatest", Check.desk("size 3;block 8").count(1), 8);
            Check.due("without it", Check.desk("size 3").count(1), 4);
            Check.due("of several", Check.desk("size 3;block 8;block 7;keep 0;block 2").count(1), 2);
        });
    }

    private static void runsAndSpaces() {
        Sentence.holds("1", "A word is a maximal run of lower-case letters, a number or BITS a maximal run of digits.", () -> {
            text("size3", "3");
            text("size3;keep0;fill0unit;block3;edge0 1 2;row0 1 101", "3");
            text("sizes 3", "-100 1 0");
            text("siz 3", "-100 1 0");
            text("tize 3", "-100 1 0");
            text("sizea 3", "-100 1 0");
            text("sizez 3", "-100 1 0");
            text("sizE 3", "-100 1 0");
            text("Size 3", "-100 1 0");
            text("size A", "-105 1 0");
            text("size 3a", "-106 1 0");
            text("size 3;fill 0 unitones", "-114 1 1");
            text("size 3;keep 00", "3");
            text("size 003", "3");
            text("size 3;edge 012", "-112 2 1");
            text("size 3;edge 0 12", "-114 2 1");
            text("size 3;row 0 1101", "-113 2 1");
            text("size 99999999999999999999999999999", "-105 2 0");
            text("size 4294967299", "-105 2 0");
            text("size 18446744073709551619", "-105 2 0");
        });
        Sentence.holds("1", "Spaces (byte 32) may stand before and after words, numbers, BITS and semicolons", () -> {
            text("   size   3   ;   edge   0   1   2   ;   row   0   0   111   ;   fill   1   ring   ", "3");
            text("size\t3", "-104 1 0");
            text("size\n3", "-104 1 0");
            text("size\u00a03", "-104 1 0");
            text("\u001fsize 3", "-100 1 0");
            text("size!3", "-104 1 0");
            text("si ze 3", "-100 1 0");
            text("size 3;row 0 0 1 1 1", "-115 2 1");
        });
        Sentence.holds("1", "they are required between two runs of digits and between two words.", () -> {
            text("size 3;edge 0 1 2", "3");
            text("size 3;edge 0 12", "-114 2 1");
            text("size 3;edge 01 2", "-116 1 1");
            text("size 3;row 0 0111", "-113 2 1");
            text("sizeedge 3", "-100 1 0");
            text("size 3;fill 0 unitkeep", "-114 1 1");
        });
    }

    private static void errors() {
        Sentence.holds("1", "The text is read from left to right; the first error ends it.", () -> {
            text("size 33;keep 0;keep 0", "-105 2 0");
            text("size 3;keep 0;keep 0;block 9", "-119 3 2");
            text("size 3;block 9;keep 0;keep 0", "-113 2 1");
            text("size 3;edge 6 9 9", "-112 2 1");
            text("size 3;edge 0 9 x", "-114 2 1");
            text("size 3;edge 0 x 9", "-114 1 1");
            text("size 3;keep 6;x", "-112 2 1");
            text("size 0x", "-105 2 0");
        });
        Sentence.holds("1", "Error 1: a byte, word or number cannot stand at its place (position of its first byte)", () -> {
            text("size 3;keep 0 unit", "-114 1 1");
            text("size 3;keep 0 12", "-114 1 1");
            text("size 3;keep 0  ?", "-115 1 1");
            text("size 3;keep unit", "-112 1 1");
            text("size 3;keep ?", "-112 1 1");
            text("size 3;12", "-107 1 1");
            text("size 3;unit", "-107 1 1");
            text("size 3;?", "-107 1 1");
            text("12", "-100 1 0");
            text("size 3;fill 0 12", "-114 1 1");
            text("size 3;fill 0 ?", "-114 1 1");
            text("size 3;row 0 0 ones", "-115 1 1");
            text("size 3;keep -1", "-112 1 1");
            text("size 3;keep +1", "-112 1 1");
            text("size 3\u00ff", "-106 1 0");
            text("size 3;keep 1/", "-113 1 1");
            text("size 3;keep 1:", "-113 1 1");
            text("size 3;keep` 1", "-111 1 1");
            text("size 3;keep{ 1", "-111 1 1");
        });
        Sentence.holds("1", "or the text ends too early (position: its length).", () -> {
            text("size", "-104 1 0");
            text("size ", "-105 1 0");
            text("size 3;", "-107 1 1");
            text("size 3; ", "-108 1 1");
            text("size 3;edge", "-111 1 1");
            text("size 3;edge 0", "-113 1 1");
            text("size 3;edge 0 1  ", "-117 1 1");
            text("size 3;row 0 0", "-114 1 1");
            text("size 3;fill 0", "-113 1 1");
            text("size 3;keep", "-111 1 1");
            text("size 3;block", "-112 1 1");
            text(" ".repeat(600), "-700 1 0");
        });
        Sentence.holds("1", "Error 2: a number is out of its range", () -> {
            text("size  33", "-106 2 0");
            text("size 3;edge 0 0  0003", "-117 2 1");
            text("size 3;edge 0 0 3000000000", "-116 2 1");
            text("size 3;edge 0 0 4294967296", "-116 2 1");
        });
        Sentence.holds("1", "or BITS have another number of signs than N or another sign than 0 and 1 (position of its first digit).", () -> {
            text("size 1;row 0 0 00", "-115 2 1");
            text("size 3;row 0 0  01", "-116 2 1");
            text("size 3;row 0 0 002", "-115 2 1");
            text("size 3;row 0 0 900", "-115 2 1");
            text("size 3;row 0 0 0009", "-115 2 1");
            text("size 32;row 0 0 " + GREAT_ONES + "1", "-116 2 1");
            text("size 32;row 0 0 " + GREAT_ONES.substring(1), "-116 2 1");
            text("size 32;row 0 0 " + GREAT_ONES.substring(1) + "2", "-116 2 1");
        });
        Sentence.holds("1", "Error 3: a second keep statement of a slot (position of the SLOT's first digit).", () -> {
            text("size 3;keep 0;keep 0", "-119 3 2");
            text("size 3;keep 0;keep  00", "-120 3 2");
            text("size 3;keep 5;block 3;keep 0;keep 5", "-134 3 4");
            text("size 3;keep 0;keep 1;keep 2;keep 3;keep 4;keep 5", "3");
            text("size 3;keep 0;keep 6", "-119 2 2");
            text("size 3;keep 0;keep 0 0", "-119 3 2");
            BitDesk desk = Check.desk("size 3;keep 0");
            Check.due("the keep of an earlier text is none", Check.loaded(desk, "size 3;keep 0"), "3");
            Check.due("nor that of a text with an error", Check.loaded(desk, "size 3;keep 1;x") + Check.loaded(desk, "size 3;keep 1"), "-114 1 23");
        });
    }

    private static void order() {
        Sentence.holds("1", "Statements are done one by one in their order", () -> {
            Check.due("row behind edge", Check.rows(Check.desk("size 2;edge 0 0 0;row 0 0 01"), 0), "2 0");
            Check.due("edge behind row", Check.rows(Check.desk("size 2;row 0 0 01;edge 0 0 0"), 0), "3 0");
            Check.due("fill behind row", Check.rows(Check.desk("size 2;row 0 0 01;fill 0 unit"), 0), "1 2");
            Check.due("fill behind fill", Check.rows(Check.desk("size 2;fill 0 ones;fill 0 lower"), 0), "0 1");
        });
        Sentence.holds("1", "keep counts from the beginning on, whatever its place.", () -> {
            for (String text : new String[] {"size 3;keep 0;edge 0 0 1;edge 0 1 2", "size 3;edge 0 0 1;keep 0;edge 0 1 2", "size 3;edge 0 0 1;edge 0 1 2;keep 0"}) {
                BitDesk desk = Check.desk(text);
                Check.due("kept by '" + text + "'", Check.kept(desk, 0) + ", pairs " + desk.pairs(0), "3 3 1, pairs 3");
            }
        });
    }

    private static void newObject() {
        Sentence.holds("Promise 1", "Creates matrices as told in section 1, with an empty input buffer, an empty output and no snapshots.", () -> {
            BitDesk desk = new BitDesk();
            Check.due("the buffer", desk.append(0), 0);
            Check.due("the output", desk.outputByte(0), -1);
            Check.due("snapshot 0", desk.restoreSnapshot(0), -1);
            Check.due("snapshot 1", desk.restoreSnapshot(1), -1);
            Check.due("numbers", desk.count(0) + " " + desk.count(1) + " " + desk.count(2) + " " + desk.count(3), "8 4 0 0");
        });
    }

    private static void append() {
        Sentence.holds("Promise 2", "the 8 bytes of a number, the most significant byte first, where bytes that are 0 are left out.", () -> {
            BitDesk desk = new BitDesk();
            Check.due("no byte", desk.append(0), 0);
            Check.due("eight bytes", desk.append(0x202073697a652020L), 8);
            Check.due("the highest byte alone", desk.append(0x3300000000000000L), 9);
            Check.due("the lowest byte alone", desk.append(0x3bL), 10);
            Check.due("bytes between", desk.append(0x006b006500650070L), 14);
            Check.due("bytes at both ends", desk.append(0x2000000000000035L), 16);
            Check.due("they stand in their order", desk.load(), 3);
            Check.due("keep 5", desk.kept(5, 2), 1);
            Check.due("all bytes 255", desk.append(-1L), 8);
            Check.due("a byte 255 is one", desk.load(), -100);
        });
        Sentence.holds("Promise 2", "FULL if it would exceed 600.", () -> {
            BitDesk desk = new BitDesk();
            for (int i = 0; i < 74; i++) {
                desk.append(0x2020202020202020L);
            }
            Check.due("599 bytes", desk.append(0x20202073697a65L), 599);
            Check.due("601 bytes", desk.append(0x2033L), -2);
            Check.due("607 bytes", desk.append(0x2020202020202033L), -2);
            Check.due("600 bytes", desk.append(0x33L), 600);
            Check.due("601 bytes", desk.append(0x3000000000000000L), -2);
            Check.due("no more bytes", desk.append(0), 600);
            Check.due("the refused ones are not there", desk.load(), 3);
            Check.due("and it is empty then", desk.append(0), 0);
        });
    }

    /** A desk with something in all that a load ends. */
    private static BitDesk busy() {
        BitDesk desk = Check.desk("size 4;fill 0 ring;fill 5 ones;keep 0;block 3");
        desk.saveSnapshot(0);
        desk.product(0, 5, 1, false);
        desk.put(0, 1, 1, true);
        desk.writeRow(0, 1);
        return desk;
    }

    private static void load() {
        Sentence.holds("Promise 3", "Reads the input buffer as a description (section 1) and begins anew; nothing can be taken back.", () -> {
            BitDesk desk = busy();
            Check.load(desk, "size 8");
            Check.due("all is as at first", Check.told(desk), Check.told(new BitDesk()));
            Check.due("undo", desk.undo(), -1);
            Check.due("numbers since load", desk.keep(0, true) + ": " + Check.kept(desk, 0), "1: 8 8 1");
        });
        Sentence.holds("Promise 3", "The buffer is emptied, also on an error.", () -> {
            BitDesk desk = new BitDesk();
            Check.due("load", Check.load(desk, "size 3"), 3);
            Check.due("the buffer", desk.append(0), 0);
            Check.due("load of nothing", desk.load(), -100);
            Check.due("load of an error", Check.load(desk, "size 3;keep 9;keep 0"), -112);
            Check.due("the buffer", desk.append(0), 0);
            Check.due("load of nothing", desk.load(), -100);
        });
        Sentence.holds("Promise 3", "The snapshots stay.", () -> {
            BitDesk desk = busy();
            Check.load(desk, "size 2");
            Check.due("snapshot 1", desk.restoreSnapshot(1), -1);
            Check.due("snapshot 0", desk.restoreSnapshot(0), 4);
            Check.due("what it has", Check.rows(desk, 0) + ", " + Check.kept(desk, 0), "2 4 8 1, 4 4 1");
        });
        Sentence.holds("Promise 3", "Returns N; -100 minus the position of the error if the text has one, and then nothing but the buffer and the results of loadError() and loadStatement() changes.", () -> {
            for (String text : new String[] {"", "size 33", "size 32;fill 0 ones;keep 5;block 1;keep 5", "size 1;edge 0 0 1", "size 4;row 0 0 1111;"}) {
                BitDesk desk = busy();
                Check.append(desk, text);
                Check.due("load of '" + text + "'", desk.load() <= -100, true);
                Check.due("after '" + text + "'", Check.told(desk).replaceFirst("load .*", ""), Check.told(busy()).replaceFirst("load .*", ""));
                Check.due("undo after it", desk.undo() + " " + desk.undo() + " " + desk.undo() + ": " + Check.rows(desk, 0), "1 0 -1: 2 4 8 1");
                Check.due("snapshots after it", desk.restoreSnapshot(1) + " " + desk.restoreSnapshot(0), "-1 4");
            }
            text("?", "-100 1 0");
            text(" ".repeat(599) + "?", "-699 1 0");
            text(" ".repeat(594) + "size 1", "1");
        });
    }

    private static void loadResults() {
        Sentence.holds("Promise 4", "Returns 1 to 3 (section 1); 0 if the text had no error or there was no such call.", () -> {
            BitDesk desk = new BitDesk();
            Check.due("no call", desk.loadError(), 0);
            Check.due("a byte", Check.load(desk, "?") + " " + desk.loadError(), "-100 1");
            Check.due("a range", Check.load(desk, "size 0") + " " + desk.loadError(), "-105 2");
            Check.due("a second keep", Check.load(desk, "size 1;keep 0;keep 0") + " " + desk.loadError(), "-119 3");
            desk.put(0, 0, 0, true);
            desk.undo();
            Check.due("of the latest call", desk.loadError(), 3);
            Check.due("no error", Check.load(desk, "size 1") + " " + desk.loadError(), "1 0");
        });
        Sentence.holds("Promise 5", "A byte behind a statement that is no semicolon belongs to that statement; what follows a semicolon belongs to the next one.", () -> {
            text("size 3?", "-106 1 0");
            text("size 3 ?", "-107 1 0");
            text("size 3;keep 0?", "-113 1 1");
            text("size 3;keep 0;?", "-114 1 2");
            text("size 3;keep 0; ", "-115 1 2");
            text("size 3;keep 0;", "-114 1 2");
            text("size 3;keep 0;;", "-114 1 2");
        });
        Sentence.holds("Promise 5", "Returns the index of the statement, from 0; NONE if the text had no error or there was no such call.", () -> {
            BitDesk desk = new BitDesk();
            Check.due("no call", desk.loadStatement(), -1);
            Check.due("the first statement", Check.load(desk, "size 0") + " " + desk.loadStatement(), "-105 0");
            String many = "size 1" + ";keep0".repeat(1) + ";block1".repeat(70);
            Check.due("the 72nd statement", Check.load(desk, many + ";block9") + " " + desk.loadStatement(), "-608 72");
            Check.due("no error", Check.load(desk, many) + " " + desk.loadStatement(), "1 -1");
        });
        Sentence.holds("Promise 6", "Returns a number.", () -> {
            BitDesk desk = Check.desk("size 32;keep 0;keep 1;keep 2;keep 3;keep 4;keep 5;block 8");
            Check.due("the greatest ones", desk.count(0) + " " + desk.count(1) + " " + desk.count(2) + " " + desk.count(3), "32 8 6 0");
            for (int i = 1; i <= 20; i++) {
                desk.setBlock(1);
                Check.due("actions after " + i, desk.count(3), Math.min(i, 8));
            }
        });
    }
}
