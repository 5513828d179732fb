/** Promises 1 to 6: a new object, the input buffer, descriptions and their errors, numbers. */
final class DescriptionTest {
    private static final String FILLER = "       ;";

    public static void main(String[] args) {
        newObject();
        append();
        load();
        loadBeginsAnew();
        spaces();
        fills();
        errors();
        errorsChangeNothing();
        count();
        Check.end("DescriptionTest");
    }

    private static void newObject() {
        BitDesk desk = new BitDesk();
        for (int slot = 0; slot < 6; slot++) {
            Check.due("new ones", desk.ones(slot), 0);
            Check.due("new kept", desk.kept(slot, 0), -1);
        }
        Check.due("new N", desk.count(0), 8);
        Check.due("new BLOCK", desk.count(1), 4);
        Check.due("new kept slots", desk.count(2), 0);
        Check.due("new actions", desk.count(3), 0);
        Check.due("new outputByte", desk.outputByte(0), -1);
        Check.due("new undo", desk.undo(), -1);
        Check.due("new restore 0", desk.restoreSnapshot(0), -1);
        Check.due("new restore 1", desk.restoreSnapshot(1), -1);
        Check.due("new loadError", desk.loadError(), 0);
        Check.due("new loadStatement", desk.loadStatement(), -1);
        Check.due("new work", desk.work(0) + desk.work(1), 0);
        Check.due("new buffer", desk.append(0), 0);
        Check.due("empty text", desk.load(), -100);
        Check.due("empty text's error", desk.loadError(), 1);
        Check.due("empty text's statement", desk.loadStatement(), 0);
    }

    private static void append() {
        BitDesk desk = new BitDesk();
        Check.due("append 0", desk.append(0), 0);
        Check.due("append zeros between", desk.append(0x7300690000007a65L), 4);
        Check.due("append", desk.append(0x2000000000000032L), 6);
        Check.due("load size 2", desk.load(), 2);
        Check.due("append is emptied", desk.append(1), 1);
        Check.due("append all bits", desk.append(-1), 9);
        Check.due("load is bad", desk.load(), -100);
        for (int i = 1; i <= 75; i++) {
            Check.due("append " + i, desk.append(0x2020202020202020L), 8 * i);
        }
        Check.due("append to a full buffer", desk.append(32), -2);
        Check.due("append nothing to a full buffer", desk.append(0), 600);
        Check.due("load spaces", desk.load(), -700);
        for (int i = 1; i <= 74; i++) {
            desk.append(0x2020202020202020L);
        }
        Check.due("append up to 599", desk.append(0x73697a65203100L), 598);
        Check.due("append beyond 600", desk.append(0x202020), -2);
        Check.due("append changed nothing", desk.append(0x2020), 600);
        Check.due("load 600 signs", desk.load(), 1);
    }

    private static void load() {
        BitDesk desk = new BitDesk();
        Check.due("load", Check.load(desk, "size 5;edge 0 1 4;row 1 2 01101;fill 2 ones;keep 3;block 7;edge 5 4 0"), 5);
        Check.due("edge", Check.rows(desk, 0), "0 16 0 0 0");
        Check.due("row", Check.rows(desk, 1), "0 0 22 0 0");
        Check.due("fill", Check.rows(desk, 2), "31 31 31 31 31");
        Check.due("edge of slot 5", Check.rows(desk, 5), "0 0 0 0 1");
        Check.due("kept", desk.kept(3, 2), 1);
        Check.due("kept slots", desk.count(2), 1);
        Check.due("block", desk.count(1), 7);
        Check.due("in order", Check.load(desk, "size 2;edge 0 0 0;row 0 0 01;edge 1 1 1;fill 1 ring;fill 2 ones;row 2 0 00;edge 2 0 1"), 2);
        Check.due("row over edge", Check.rows(desk, 0), "2 0");
        Check.due("fill over edge", Check.rows(desk, 1), "2 1");
        Check.due("edge over row over fill", Check.rows(desk, 2), "2 3");
        Check.due("the last block counts", Check.load(desk, "size 2;block 8;block 1;block 3"), 2);
        Check.due("the last block counts", desk.count(1), 3);
        Check.due("keep ahead of edges", Check.load(desk, "size 3;keep 0;edge 0 0 1;edge 0 1 2"), 3);
        Check.due("made anew once at the end", desk.kept(0, 0) * 100 + desk.kept(0, 1) * 10 + desk.kept(0, 2), 331);
        Check.due("closure of edges behind keep", desk.reaches(0, 0, 2), 1);
        Check.due("size 1", Check.load(desk, "size 1;row 0 0 1;edge 1 0 0"), 1);
        Check.due("size 32", Check.load(desk, "size 32;edge 0 31 31;row 1 0 10000000000000000000000000000001"), 32);
        Check.due("row of 32", desk.row(1, 0), 0x80000001L);
        Check.due("edge of 32", desk.row(0, 31), 0x80000000L);
        Check.due("noughts ahead", Check.load(desk, "size 0000000000000000000000000000000000000008;block 02"), 8);
        Check.due("noughts ahead", desk.count(1), 2);
    }

    private static void loadBeginsAnew() {
        BitDesk desk = Check.desk("size 4;edge 0 0 1;keep 0;block 2");
        desk.product(0, 0, 1, false);
        desk.writeRow(0, 0);
        desk.saveSnapshot(1);
        Check.due("load size 3", Check.load(desk, "size 3"), 3);
        Check.due("no ones", desk.ones(0), 0);
        Check.due("BLOCK is usual", desk.count(1), 4);
        Check.due("nothing is kept", desk.count(2), 0);
        Check.due("nothing can be taken back", desk.count(3), 0);
        Check.due("undo", desk.undo(), -1);
        Check.due("work 0", desk.work(0), 0);
        Check.due("work 1", desk.work(1), 0);
        Check.due("output", desk.outputByte(0), -1);
        Check.due("snapshots stay", desk.restoreSnapshot(1), 4);
        Check.due("snapshot 0", desk.restoreSnapshot(0), -1);
        desk.put(0, 2, 3, true);
        Check.load(desk, "size 4;keep 0");
        Check.due("kept 1 since load", desk.kept(0, 1), 4);
        Check.due("kept 2 since load", desk.kept(0, 2), 1);
    }

    private static void spaces() {
        BitDesk desk = new BitDesk();
        Check.due("spaces everywhere", Check.load(desk, "  size  6  ;  edge  0  1  2  ;  row  1  0  100000  ; fill  2  unit ; keep  4 ; block  5  "), 6);
        Check.due("as few spaces as can be", Check.load(desk, "size6;edge0 1 2;row1 0 100000;fill2unit;keep4;block5"), 6);
        Check.due("edge0 1 2", desk.row(0, 1), 4L);
        Check.due("fill2unit", desk.row(2, 5), 32L);
        fails(desk, "size 6;edge 0 12", 114, 2, 1);
        fails(desk, "sizeblock 6", 100, 1, 0);
        fails(desk, "size 6;edge 01 2", 116, 1, 1);
        fails(desk, "size 6; fill 0 unitones", 115, 1, 1);
    }

    private static void fills() {
        BitDesk desk = Check.desk("size 3;fill 0 unit;fill 1 ones;fill 2 ring;fill 3 lower;fill 4 ones;fill 4 lower");
        Check.due("unit", Check.rows(desk, 0), "1 2 4");
        Check.due("ones", Check.rows(desk, 1), "7 7 7");
        Check.due("ring", Check.rows(desk, 2), "2 4 1");
        Check.due("lower", Check.rows(desk, 3), "0 1 3");
        Check.due("lower over ones", Check.rows(desk, 4), "0 1 3");
        desk = Check.desk("size 1;fill 0 unit;fill 1 ones;fill 2 ring;fill 3 lower");
        Check.due("of one", desk.row(0, 0) * 1000 + desk.row(1, 0) * 100 + desk.row(2, 0) * 10 + desk.row(3, 0), 1110L);
        desk = Check.desk("size 32;fill 0 unit;fill 1 ones;fill 2 ring;fill 3 lower");
        Check.due("unit of 32", desk.row(0, 31), 1L << 31);
        Check.due("ones of 32", desk.ones(1), 1024);
        Check.due("ring of 32", desk.row(2, 30) + desk.row(2, 31), (1L << 31) + 1);
        Check.due("lower of 32", desk.row(3, 31), (1L << 31) - 1);
    }

    private static void fails(BitDesk desk, String text, int minus, int kind, int statement) {
        Check.due("load of '" + text + "'", Check.load(desk, text), -minus);
        Check.due("loadError of '" + text + "'", desk.loadError(), kind);
        Check.due("loadStatement of '" + text + "'", desk.loadStatement(), statement);
    }

    private static void errors() {
        BitDesk desk = new BitDesk();
        misplaced(desk);
        outOfRange(desk);
        fails(desk, "size 8;keep 0;keep 1; keep  00;keep 1", 128, 3, 3);
        fails(desk, "size 8;keep 0;keep 0x", 119, 3, 2);
        fails(desk, "size 8;keep 0;block 9;keep 0", 120, 2, 2);
        fails(desk, FILLER, 107, 1, 0);
        Check.due("load without an error", Check.load(desk, "size 8"), 8);
        Check.due("loadError is 0 again", desk.loadError(), 0);
        Check.due("loadStatement is NONE again", desk.loadStatement(), -1);
    }

    private static void misplaced(BitDesk desk) {
        fails(desk, "   ", 103, 1, 0);
        fails(desk, "edge 0 0 0", 100, 1, 0);
        fails(desk, "8", 100, 1, 0);
        fails(desk, ";size 8", 100, 1, 0);
        fails(desk, "sizes 8", 100, 1, 0);
        fails(desk, "siz 8", 100, 1, 0);
        fails(desk, "xize 8", 100, 1, 0);
        fails(desk, "sizea 8", 100, 1, 0);
        fails(desk, "sizez 8", 100, 1, 0);
        fails(desk, "size` 8", 104, 1, 0);
        fails(desk, "size{ 8", 104, 1, 0);
        fails(desk, "size 8: 8", 106, 1, 0);
        fails(desk, "size 8/ 8", 106, 1, 0);
        fails(desk, "size 8;aow 0 0 11111111", 107, 1, 1);
        fails(desk, "size 8;rox 0 0 11111111", 107, 1, 1);
        fails(desk, "Size 8", 100, 1, 0);
        fails(desk, "size", 104, 1, 0);
        fails(desk, "size  ", 106, 1, 0);
        fails(desk, "size;", 104, 1, 0);
        fails(desk, "size -8", 105, 1, 0);
        fails(desk, "size x", 105, 1, 0);
        fails(desk, "size 8 8", 107, 1, 0);
        fails(desk, "size 8 edge 0 0 0", 107, 1, 0);
        fails(desk, "size 8edge 0 0 0", 106, 1, 0);
        fails(desk, "size 8,", 106, 1, 0);
        fails(desk, "size 8\n", 106, 1, 0);
        fails(desk, "size 8\u00e9", 106, 1, 0);
        fails(desk, "size 8;", 107, 1, 1);
        fails(desk, "size 8;  ", 109, 1, 1);
        fails(desk, "size 8;;", 107, 1, 1);
        fails(desk, "size 8;size 8", 107, 1, 1);
        fails(desk, "size 8;unit 0", 107, 1, 1);
        fails(desk, "size 8;keep 0;7", 114, 1, 2);
        fails(desk, "size 8;edge 0 1", 115, 1, 1);
        fails(desk, "size 8;edge 0 1;", 115, 1, 1);
        fails(desk, "size 8;edge 0 1 x", 116, 1, 1);
        fails(desk, "size 8;edge 0 1 2 3", 118, 1, 1);
        fails(desk, "size 8;row 0 1 ones", 115, 1, 1);
        fails(desk, "size 8;row 0 1 11110000 1", 124, 1, 1);
        fails(desk, "size 8;row 0 1 11110000a", 123, 1, 1);
        fails(desk, "size 8;fill 0 7", 114, 1, 1);
        fails(desk, "size 8;fill 0 edge", 114, 1, 1);
        fails(desk, "size 8;fill 0", 113, 1, 1);
        fails(desk, "size 8;fill unit", 112, 1, 1);
        fails(desk, "size 8;keep", 111, 1, 1);
        fails(desk, "size 8;keep 0 unit", 114, 1, 1);
        fails(desk, "size 8;block", 112, 1, 1);
    }

    private static void outOfRange(BitDesk desk) {
        fails(desk, "size 0", 105, 2, 0);
        fails(desk, "size 33", 105, 2, 0);
        fails(desk, "size  99999999999999999999999", 106, 2, 0);
        fails(desk, "size 4294967297", 105, 2, 0);
        fails(desk, "size 8;edge 6 0 0", 112, 2, 1);
        fails(desk, "size 8;edge 5 8 9", 114, 2, 1);
        fails(desk, "size 8;edge 5 7 8", 116, 2, 1);
        fails(desk, "size 8;edge 6 x", 112, 2, 1);
        fails(desk, "size 8;row 6 0 1", 111, 2, 1);
        fails(desk, "size 8;row 0 8 1", 113, 2, 1);
        fails(desk, "size 8;row 0 7 1111000", 115, 2, 1);
        fails(desk, "size 8;row 0 7 111100001", 115, 2, 1);
        fails(desk, "size 8;row 0 7 11110002", 115, 2, 1);
        fails(desk, "size 8;row 0 7 9111000a", 115, 2, 1);
        fails(desk, "size 8;fill 6 unit", 112, 2, 1);
        fails(desk, "size 8;keep 6", 112, 2, 1);
        fails(desk, "size 8;block 0", 113, 2, 1);
        fails(desk, "size 8;block 9", 113, 2, 1);
        fails(desk, "size 8;block 9;size", 113, 2, 1);
    }

    private static void errorsChangeNothing() {
        BitDesk desk = Check.desk("size 3;fill 0 ring;keep 0;block 2");
        desk.product(0, 0, 1, false);
        desk.writeRow(0, 0);
        desk.saveSnapshot(0);
        fails(desk, "size 5;fill 0 ones;keep 1;keep 1", 131, 3, 3);
        Check.due("N", desk.count(0), 3);
        Check.due("BLOCK", desk.count(1), 2);
        Check.due("kept slots", desk.count(2), 1);
        Check.due("actions", desk.count(3), 1);
        Check.due("rows", Check.rows(desk, 0), "2 4 1");
        Check.due("kept", desk.kept(0, 2), 1);
        Check.due("work", desk.work(0), 4);
        Check.due("output", desk.outputByte(1), 49);
        Check.due("the buffer is empty", desk.append(49), 1);
        Check.due("undo", desk.undo(), 0);
        Check.due("loadError stays", desk.loadError(), 3);
        Check.due("restoreSnapshot", desk.restoreSnapshot(0), 3);
        Check.due("loadError stays", desk.loadError(), 3);
        Check.due("loadStatement stays", desk.loadStatement(), 3);
        Check.due("the buffer stays", desk.append(50), 2);
    }

    private static void count() {
        BitDesk desk = Check.desk("size 7;block 6;keep 5;keep 0");
        Check.due("count 0", desk.count(0), 7);
        Check.due("count 1", desk.count(1), 6);
        Check.due("count 2", desk.count(2), 2);
        for (int i = 0; i < 10; i++) {
            Check.due("count 3", desk.count(3), Math.min(i, 8));
            desk.put(0, 0, 0, true);
        }
        Check.dueThrow("count -1", Check.ARGUMENT, () -> desk.count(-1));
        Check.dueThrow("count 4", Check.ARGUMENT, () -> desk.count(4));
        Check.dueThrow("count least", Check.ARGUMENT, () -> desk.count(Integer.MIN_VALUE));
    }
}
