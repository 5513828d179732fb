/** Promises 55 to 59: the output, undo and snapshots. */
final class StateTest {
    public static void main(String[] args) {
        output();
        undo();
        undoOfEach();
        snapshots();
        snapshotsHoldAll();
        Check.end("StateTest");
    }

    private static void output() {
        BitDesk desk = Check.desk("size 5;row 0 1 10010");
        Check.due("outputByte at first", desk.outputByte(0), -1);
        Check.due("writeRow", desk.writeRow(0, 1), 5);
        String text = "";
        for (int i = 0; i < 5; i++) {
            text += (char) desk.outputByte(i);
        }
        Check.due("what is written", text, "10010");
        Check.due("outputByte 5", desk.outputByte(5), -1);
        Check.due("outputByte -1", desk.outputByte(-1), -1);
        Check.due("outputByte least", desk.outputByte(Integer.MIN_VALUE), -1);
        Check.due("outputByte greatest", desk.outputByte(Integer.MAX_VALUE), -1);
        Check.due("in place of what it had", desk.writeRow(0, 0), 5);
        Check.due("a sign", desk.outputByte(0), 48);
        Check.due("its end", desk.outputByte(5), -1);
        Check.due("it is no action", desk.count(3), 0);
        desk.writeRow(0, 1);
        desk.setRow(0, 1, 0);
        desk.saveSnapshot(0);
        Check.due("it is not the row itself", desk.outputByte(0), 49);
        desk.undo();
        desk.restoreSnapshot(0);
        Check.due("it stays", desk.outputByte(3) + desk.outputByte(5), 48);
        BitDesk great = Check.desk("size 32;edge 0 0 31");
        Check.due("writeRow of 32", great.writeRow(0, 0) + great.outputByte(31) + great.outputByte(30), 32 + 49 + 48);
        for (int slot : new int[] {-1, 6, Integer.MIN_VALUE}) {
            Check.dueThrow("writeRow of slot " + slot, Check.INDEX, () -> desk.writeRow(slot, 0));
        }
        for (int row : new int[] {-1, 5, Integer.MAX_VALUE}) {
            Check.dueThrow("writeRow of row " + row, Check.INDEX, () -> desk.writeRow(0, row));
        }
        Check.due("an exception changes nothing", desk.outputByte(0), 49);
    }

    private static void undo() {
        BitDesk desk = Check.desk("size 4");
        Check.due("undo nothing", desk.undo(), -1);
        for (int i = 0; i < 12; i++) {
            desk.put(0, i / 4, i % 4, true);
        }
        for (int left = 7; left >= 0; left--) {
            Check.due("undo", desk.undo(), left);
            Check.due("count", desk.count(3), left);
            Check.due("ones", desk.ones(0), left + 4);
        }
        Check.due("undo more", desk.undo(), -1);
        Check.due("nothing changes", desk.ones(0), 4);
        desk.put(0, 3, 3, true);
        desk.put(0, 3, 3, true);
        Check.due("an action that changed nothing", desk.undo(), 1);
        Check.due("is still there", desk.bit(0, 3, 3), 1);
        desk.put(0, 2, 2, true);
        Check.due("undo after an action after undo", desk.undo(), 1);
        Check.due("undo", desk.undo(), 0);
        Check.due("ones", desk.ones(0), 4);
        Check.due("pairs", desk.pairs(0), 4);
    }

    private static String all(BitDesk desk) {
        StringBuilder text = new StringBuilder();
        for (int slot = 0; slot < 6; slot++) {
            text.append(Check.rows(desk, slot)).append(" pairs ").append(desk.pairs(slot)).append(" kept");
            for (int what = 0; what < 3; what++) {
                text.append(' ').append(desk.kept(slot, what));
            }
            text.append('\n');
        }
        return text.append(desk.count(1) + " " + desk.count(2) + " " + desk.work(0) + " " + desk.work(1)).toString();
    }

    private static void undoOfEach() {
        for (int which = 0; which < 13; which++) {
            BitDesk desk = Check.desk("size 4;fill 0 ring;fill 1 lower;edge 1 0 0;keep 1;keep 0;block 3");
            desk.product(0, 1, 2, true);
            String before = all(desk);
            act(desk, which);
            Check.due("action " + which + " changes something", all(desk).equals(before), false);
            Check.due("closure after action " + which, desk.pairs(0) + " " + desk.pairs(1), freshPairs(desk, 0) + " " + freshPairs(desk, 1));
            Check.due("undo of action " + which, desk.undo(), 1);
            Check.due("after undo of action " + which, all(desk), before);
            Check.due("SINGULAR", desk.invert(5, 0), -3);
            Check.due("undo of the product", desk.undo(), 0);
            Check.due("work", desk.work(0), 0);
        }
    }

    private static int freshPairs(BitDesk desk, int slot) {
        BitDesk fresh = Check.desk("size " + desk.count(0));
        for (int row = 0; row < desk.count(0); row++) {
            fresh.setRow(0, row, desk.row(slot, row));
        }
        return fresh.pairs(0);
    }

    private static void act(BitDesk desk, int which) {
        switch (which) {
            case 0: desk.put(1, 0, 3, true); break;
            case 1: desk.setRow(1, 2, 9); break;
            case 2: desk.copy(0, 1); break;
            case 3: desk.transpose(1, 1); break;
            case 4: desk.combine(0, 1, 1, 2); break;
            case 5: desk.product(1, 1, 1, false); break;
            case 6: desk.power(1, 3, 0, false); break;
            case 7: desk.invert(0, 1); break;
            case 8: desk.close(0, 0); break;
            case 9: desk.reduce(1, 1); break;
            case 10: desk.exchange(1, 0, 2); break;
            case 11: desk.keep(1, false); break;
            default: desk.setBlock(8);
        }
    }

    private static void snapshots() {
        BitDesk desk = Check.desk("size 3;edge 0 0 1");
        Check.due("restore nothing", desk.restoreSnapshot(0), -1);
        Check.due("save", desk.saveSnapshot(0), 3);
        desk.put(0, 1, 2, true);
        Check.due("restore what is not there", desk.restoreSnapshot(1), -1);
        Check.due("it changes nothing", desk.ones(0) * 10 + desk.count(3), 21);
        Check.due("save the other", desk.saveSnapshot(1), 3);
        Check.due("saving is no action and keeps them", desk.count(3), 1);
        Check.due("restore", desk.restoreSnapshot(0), 3);
        Check.due("restored", desk.ones(0), 1);
        Check.due("nothing can be taken back", desk.undo(), -1);
        desk.put(0, 2, 2, true);
        Check.due("restore again: it stays", desk.restoreSnapshot(0) * 10 + desk.ones(0), 31);
        Check.due("restore the other", desk.restoreSnapshot(1) * 10 + desk.ones(0), 32);
        Check.load(desk, "size 7;fill 0 ones");
        Check.due("restore after load", desk.restoreSnapshot(1), 3);
        Check.due("N", desk.count(0), 3);
        Check.due("rows", Check.rows(desk, 0), "2 4 0");
        Check.due("pairs", desk.pairs(0), 3);
        Check.due("save over it", desk.saveSnapshot(0), 3);
        desk.restoreSnapshot(0);
        Check.due("the later one", desk.ones(0), 2);
        for (int place : new int[] {-1, 2, Integer.MIN_VALUE, Integer.MAX_VALUE}) {
            Check.dueThrow("save at " + place, Check.ARGUMENT, () -> desk.saveSnapshot(place));
            Check.dueThrow("restore from " + place, Check.ARGUMENT, () -> desk.restoreSnapshot(place));
        }
    }

    private static void snapshotsHoldAll() {
        BitDesk desk = Check.desk("size 4;fill 0 ring;fill 1 lower;keep 1;block 3");
        desk.product(0, 1, 2, true);
        desk.put(1, 0, 2, true);
        String before = all(desk);
        desk.saveSnapshot(1);
        for (int which = 0; which < 13; which++) {
            act(desk, which);
        }
        Check.load(desk, "size 9;");
        desk.append(115);
        Check.due("restore", desk.restoreSnapshot(1), 4);
        Check.due("all is as it was", all(desk), before);
        Check.due("loadError is as it is", desk.loadError(), 1);
        Check.due("loadStatement is as it is", desk.loadStatement(), 1);
        Check.due("the buffer is as it is", desk.append(0), 1);
        Check.due("no actions", desk.count(3), 0);
    }
}
