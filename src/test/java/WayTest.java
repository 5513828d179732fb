/** Promises 20 to 35: closures, components, ways, orders, and what edges do to the closure. */
final class WayTest {
    // Slot 0: 0 to 1 to 2 and back to 0, 2 to 3, and 4 with an edge to itself; 5 has no edge.
    private static final String TEXT = "size 6;edge 0 0 1;edge 0 1 2;edge 0 2 0;edge 0 2 3;edge 0 4 4";

    public static void main(String[] args) {
        closures();
        components();
        distances();
        steps();
        cycles();
        orders();
        gains();
        losses();
        triangles();
        great();
        wrongInputs();
        Check.end("WayTest");
    }

    private static void closures() {
        BitDesk desk = Check.desk(TEXT);
        Check.due("reaches itself by others", desk.reaches(0, 0, 0), 1);
        Check.due("reaches", desk.reaches(0, 0, 3), 1);
        Check.due("reaches back", desk.reaches(0, 3, 0), 0);
        Check.due("reaches itself by an edge", desk.reaches(0, 4, 4), 1);
        Check.due("reaches itself without an edge", desk.reaches(0, 5, 5), 0);
        Check.due("reached", desk.reached(0, 1), 4);
        Check.due("reached by none", desk.reached(0, 3), 0);
        Check.due("pairs", desk.pairs(0), 13);
        Check.due("pairs of nothing", desk.pairs(1), 0);
        Check.due("meanReach", desk.meanReach(0), 13f / 6f);
        Check.due("meanReach of nothing", desk.meanReach(5), 0f);
    }

    private static void components() {
        BitDesk desk = Check.desk(TEXT);
        for (int a = 0; a < 6; a++) {
            Check.due("component " + a, desk.component(0, a), a < 3 ? 0 : a);
        }
        Check.due("components", desk.components(0), 4);
        Check.due("components of nothing", desk.components(1), 6);
        BitDesk two = Check.desk("size 4;edge 0 3 1;edge 0 1 3;edge 0 0 1;edge 1 2 3");
        Check.due("component of a pair", two.component(0, 3), 1);
        Check.due("component of what reaches it", two.component(0, 0), 0);
        Check.due("component of a lone edge's end", two.component(1, 3), 3);
        Check.due("components", two.components(0), 3);
    }

    private static void distances() {
        BitDesk desk = Check.desk(TEXT);
        Check.due("distance", desk.distance(0, 0, 3), 3);
        Check.due("distance of an edge", desk.distance(0, 2, 3), 1);
        Check.due("distance of one", desk.distance(0, 0, 0), 0);
        Check.due("distance of one with an edge", desk.distance(0, 4, 4), 0);
        Check.due("distance of one without an edge", desk.distance(0, 5, 5), 0);
        Check.due("no distance", desk.distance(0, 3, 0), -1);
        Check.due("around", desk.around(0, 2), 3);
        Check.due("around by an edge", desk.around(0, 4), 1);
        Check.due("around of none", desk.around(0, 3), -1);
    }

    private static void steps() {
        BitDesk desk = Check.desk("size 6;edge 0 0 4;edge 0 0 2;edge 0 4 1;edge 0 2 3;edge 0 1 5;edge 0 3 5;edge 0 0 1;edge 0 5 5;"
            + "edge 1 0 1;edge 1 0 2;edge 1 1 3;edge 1 2 3;edge 1 3 4;edge 2 0 2;edge 2 0 1;edge 2 2 3;edge 2 1 1");
        Check.due("step 0", desk.stepAt(0, 0, 5, 0), 0);
        Check.due("step 1", desk.stepAt(0, 0, 5, 1), 1);
        Check.due("step 2", desk.stepAt(0, 0, 5, 2), 5);
        Check.due("step 3", desk.stepAt(0, 0, 5, 3), -1);
        Check.due("step -1", desk.stepAt(0, 0, 5, -1), -1);
        Check.due("step least", desk.stepAt(0, 0, 5, Integer.MIN_VALUE), -1);
        Check.due("step greatest", desk.stepAt(0, 0, 5, Integer.MAX_VALUE), -1);
        Check.due("the lower of two ways", desk.stepAt(1, 0, 4, 1), 1);
        Check.due("then", desk.stepAt(1, 0, 4, 2), 3);
        Check.due("at last", desk.stepAt(1, 0, 4, 3), 4);
        Check.due("the lower node leads nowhere", desk.stepAt(2, 0, 3, 1), 2);
        BitDesk first = Check.desk("size 5;edge 0 3 0;edge 0 3 4;edge 0 4 2;edge 1 3 0;edge 1 3 1;edge 1 0 4;edge 1 1 4;edge 1 4 2");
        Check.due("the first node leads nowhere", first.stepAt(0, 3, 2, 1), 4);
        Check.due("the first node leads on", first.stepAt(1, 3, 2, 1) + "" + first.stepAt(1, 3, 2, 2) + first.stepAt(1, 3, 2, 3), "042");
        Check.due("one node", desk.stepAt(0, 5, 5, 0), 5);
        Check.due("one node, next", desk.stepAt(0, 5, 5, 1), -1);
        Check.due("no way", desk.stepAt(0, 5, 0, 0), -1);
        Check.due("no way, step -1", desk.stepAt(0, 5, 0, -1), -1);
    }

    private static void cycles() {
        BitDesk desk = Check.desk("size 5;edge 0 0 1;edge 0 1 2;edge 0 2 0;edge 0 2 3;edge 0 3 2;edge 1 0 1;edge 2 0 1;edge 2 1 0;edge 2 4 4");
        Check.due("around the short one", desk.around(0, 2), 2);
        Check.due("around the long one", desk.around(0, 0), 3);
        Check.due("girth", desk.girth(0), 2);
        Check.due("girth of none", desk.girth(1), -1);
        Check.due("girth of one", desk.girth(2), 1);
        Check.due("girth of nothing", desk.girth(5), -1);
        Check.due("girth of the first node", Check.desk("size 2;edge 0 0 0").girth(0), 1);
        Check.due("girth of the last node", Check.desk("size 2;edge 0 1 1").girth(0), 1);
    }

    private static void orders() {
        BitDesk desk = Check.desk("size 5;edge 0 4 0;edge 0 4 2;edge 0 2 1;edge 0 0 1;edge 1 1 1;edge 1 0 2;edge 2 1 2;edge 2 2 1;edge 2 2 4");
        Check.due("order", desk.order(0, 0) + "" + desk.order(0, 1) + desk.order(0, 2) + desk.order(0, 3) + desk.order(0, 4), "34021");
        Check.due("order behind the end", desk.order(0, 5), -1);
        Check.due("order ahead", desk.order(0, -1), -1);
        Check.due("order far ahead", desk.order(0, Integer.MIN_VALUE), -1);
        Check.due("order by an edge to itself", desk.order(1, 0) + "" + desk.order(1, 1) + desk.order(1, 2) + desk.order(1, 3), "0234");
        Check.due("no order", desk.order(1, 4), -1);
        Check.due("order around a cycle", desk.order(2, 0) + "" + desk.order(2, 1), "03");
        Check.due("no order in a cycle and behind it", desk.order(2, 2), -1);
        Check.due("no order, later", desk.order(2, 4), -1);
    }

    private static void gains() {
        BitDesk desk = Check.desk(TEXT + ";fill 1 ones;edge 2 0 1;edge 2 1 2");
        Check.due("gained", desk.gained(0, 3, 4), 4);
        Check.due("gained to nothing", desk.gained(0, 3, 5), 4);
        Check.due("gained of an edge that is there", desk.gained(0, 0, 1), 0);
        Check.due("gained of no use", desk.gained(0, 0, 3), 0);
        Check.due("gained of oneself", desk.gained(0, 5, 5), 1);
        Check.due("gained of a cycle", desk.gained(2, 2, 0), 6);
        Check.due("bestEdge", desk.bestEdge(0), 32 * 3 + 0);
        Check.due("bestEdge's gain", desk.gained(0, 3, 0), 4);
        Check.due("bestEdge of all", desk.bestEdge(1), -1);
        Check.due("bestEdge of nothing", desk.bestEdge(3), 0);
        BitDesk full = Check.desk("size 3;fill 0 ones;fill 1 ring");
        full.put(0, 2, 1, false);
        Check.due("bestEdge without gain", full.bestEdge(0), 65);
        Check.due("bestEdge of a ring", full.bestEdge(1), 0);
    }

    private static void losses() {
        BitDesk desk = Check.desk(TEXT + ";fill 1 ones;edge 2 0 1;edge 2 1 2;edge 2 0 2;edge 3 0 0;edge 3 0 1;edge 3 1 0;edge 4 5 5");
        Check.due("lost of a cycle", desk.lost(0, 0, 1), 13 - 6);
        Check.due("lost of a cycle at its next edge", desk.lost(0, 1, 2), 13 - 5);
        Check.due("lost of an end", desk.lost(0, 2, 3), 3);
        Check.due("lost of oneself", desk.lost(0, 4, 4), 1);
        Check.due("lost of oneself in a cycle", desk.lost(3, 0, 0), 0);
        Check.due("lost of an edge that is not there", desk.lost(0, 0, 3), -1);
        Check.due("lost of what is not needed", desk.lost(2, 0, 2), 0);
        Check.due("lost of what is needed", desk.lost(2, 0, 1), 1);
        Check.due("weakest", desk.weakest(0), 1 * 32 + 2);
        Check.due("weakest of ones", desk.weakest(1), 0);
        Check.due("weakest, first of several", desk.weakest(2), 1);
        Check.due("weakest of one", desk.weakest(4), 32 * 5 + 5);
        Check.due("weakest of nothing", desk.weakest(5), -1);
        Check.due("nothing has changed", desk.pairs(0), 13);
        Check.due("no action", desk.count(3), 0);
    }

    private static void triangles() {
        BitDesk desk = Check.desk("size 4;edge 0 0 1;edge 0 1 2;edge 0 2 0;fill 1 ones;fill 2 unit;edge 3 0 1;edge 3 1 0;edge 3 0 0;edge 4 0 1;edge 4 1 2;edge 4 0 2");
        Check.due("triangles of one", desk.triangles(0), 3);
        Check.due("triangles of ones", desk.triangles(1), 24);
        Check.due("triangles of unit", desk.triangles(2), 0);
        Check.due("triangles of a pair", desk.triangles(3), 0);
        Check.due("triangles of no cycle", desk.triangles(4), 0);
        Check.due("triangles of 32", Check.desk("size 32;fill 0 ones").triangles(0), 32 * 31 * 30);
    }

    private static void great() {
        BitDesk desk = Check.desk("size 32;fill 0 ring;fill 1 lower;fill 2 ones");
        Check.due("pairs of a ring", desk.pairs(0), 1024);
        Check.due("distance in a ring", desk.distance(0, 1, 0), 31);
        Check.due("step in a ring", desk.stepAt(0, 1, 0, 30), 31);
        Check.due("last step in a ring", desk.stepAt(0, 1, 0, 31), 0);
        Check.due("around a ring", desk.around(0, 31), 32);
        Check.due("girth of a ring", desk.girth(0), 32);
        Check.due("components of a ring", desk.components(0), 1);
        Check.due("component of a ring", desk.component(0, 31), 0);
        Check.due("weakest of a ring", desk.weakest(0), 1);
        Check.due("lost of a ring", desk.lost(0, 31, 0), 1024 - 31 * 32 / 2);
        Check.due("order of lower", desk.order(1, 0) * 100 + desk.order(1, 31), 3100);
        Check.due("pairs of lower", desk.pairs(1), 31 * 32 / 2);
        Check.due("gained of lower", desk.gained(1, 0, 31), 1024 - 31 * 32 / 2);
        Check.due("bestEdge of lower", desk.bestEdge(1), 31);
        Check.due("weakest of ones", desk.weakest(2), 0);
        Check.due("meanReach of ones", desk.meanReach(2), 32f);
    }

    private static void wrongInputs() {
        BitDesk desk = Check.desk(TEXT);
        for (int slot : new int[] {-1, 6, Integer.MIN_VALUE, Integer.MAX_VALUE}) {
            wrongInput(desk, slot, 0, "of slot " + slot);
            Check.dueThrow("pairs", Check.INDEX, () -> desk.pairs(slot));
            Check.dueThrow("meanReach", Check.INDEX, () -> desk.meanReach(slot));
            Check.dueThrow("components", Check.INDEX, () -> desk.components(slot));
            Check.dueThrow("girth", Check.INDEX, () -> desk.girth(slot));
            Check.dueThrow("order", Check.INDEX, () -> desk.order(slot, 0));
            Check.dueThrow("bestEdge", Check.INDEX, () -> desk.bestEdge(slot));
            Check.dueThrow("weakest", Check.INDEX, () -> desk.weakest(slot));
            Check.dueThrow("triangles", Check.INDEX, () -> desk.triangles(slot));
        }
        for (int node : new int[] {-1, 6, 32, Integer.MIN_VALUE, Integer.MAX_VALUE}) {
            wrongInput(desk, 0, node, "of node " + node);
            Check.dueThrow("reaches to " + node, Check.INDEX, () -> desk.reaches(0, 0, node));
            Check.dueThrow("distance to " + node, Check.INDEX, () -> desk.distance(0, 0, node));
            Check.dueThrow("stepAt to " + node, Check.INDEX, () -> desk.stepAt(0, 0, node, -1));
            Check.dueThrow("gained to " + node, Check.INDEX, () -> desk.gained(0, 0, node));
            Check.dueThrow("lost to " + node, Check.INDEX, () -> desk.lost(0, 0, node));
        }
    }

    private static void wrongInput(BitDesk desk, int slot, int node, String what) {
        Check.dueThrow("reaches " + what, Check.INDEX, () -> desk.reaches(slot, node, 0));
        Check.dueThrow("reached " + what, Check.INDEX, () -> desk.reached(slot, node));
        Check.dueThrow("component " + what, Check.INDEX, () -> desk.component(slot, node));
        Check.dueThrow("distance " + what, Check.INDEX, () -> desk.distance(slot, node, node));
        Check.dueThrow("stepAt " + what, Check.INDEX, () -> desk.stepAt(slot, node, 0, 0));
        Check.dueThrow("around " + what, Check.INDEX, () -> desk.around(slot, node));
        Check.dueThrow("gained " + what, Check.INDEX, () -> desk.gained(slot, node, 0));
        Check.dueThrow("lost " + what, Check.INDEX, () -> desk.lost(slot, node, 0));
    }
}
