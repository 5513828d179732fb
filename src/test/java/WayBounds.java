/** Boundary cases of the promises 20 to 35 and of ways in section 2. */
final class WayBounds {
    private WayBounds() {
    }

    static void test() {
        closures();
        components();
        distances();
        steps();
        cycles();
        orders();
        gains();
        losses();
        triangles();
    }

    /** Slot 0 a ring, 1 all, 2 lower, 3 a way from 0 to the last node, 4 an edge of the last node to itself, 5 nothing. */
    private static BitDesk desk(int size) {
        StringBuilder text = new StringBuilder("size " + size + ";fill 0 ring;fill 1 ones;fill 2 lower;edge 4 " + (size - 1) + " " + (size - 1));
        BitDesk desk = Check.desk(text.toString());
        desk.copy(0, 3);
        desk.setRow(3, size - 1, 0);
        return desk;
    }

    private static void closures() {
        Sentence.holds("2", "A node reaches another one (or itself) if there is a way of one edge or more.", () -> {
            BitDesk desk = desk(32);
            Check.due("itself, without an edge", desk.reaches(5, 0, 0) + "" + desk.reaches(3, 31, 31) + desk.reaches(2, 5, 5), "000");
            Check.due("itself, by one edge", desk.reaches(4, 31, 31), 1);
            Check.due("itself, by 32 edges", desk.reaches(0, 31, 31), 1);
            Check.due("another, by 31 edges", desk.reaches(3, 0, 31) + "" + desk.reaches(0, 1, 0), "11");
            Check.due("another, not back", desk.reaches(3, 31, 0), 0);
            Check.due("of one", desk(1).reaches(0, 0, 0) + "" + desk(1).reaches(3, 0, 0), "10");
        });
        Sentence.holds("Promise 20", "Returns 1 or 0.", () ->
            Check.due("a long way and back", desk(32).reaches(3, 0, 31) + "" + desk(32).reaches(3, 31, 0), "10"));
        Sentence.holds("Promise 21", "Counts the nodes that a node reaches.", () -> {
            BitDesk desk = desk(32);
            Check.due("all", desk.reached(0, 0) + " " + desk.reached(1, 31), "32 32");
            Check.due("none", desk.reached(5, 0) + " " + desk.reached(3, 31) + " " + desk.reached(2, 0), "0 0 0");
            Check.due("all but itself", desk.reached(3, 0) + " " + desk.reached(2, 31), "31 31");
            Check.due("itself alone", desk.reached(4, 31) + " " + desk(1).reached(1, 0), "1 1");
        });
        Sentence.holds("Promise 22", "Counts the ones of the closure.", () -> {
            BitDesk desk = desk(32);
            Check.due("of each slot", desk.pairs(0) + " " + desk.pairs(1) + " " + desk.pairs(2) + " " + desk.pairs(3) + " " + desk.pairs(4) + " " + desk.pairs(5), "1024 1024 496 496 1 0");
        });
        Sentence.holds("Promise 23", "Returns (float) pairs(slot) / (float) N.", () -> {
            Check.due("all", desk(32).meanReach(0), 32f);
            Check.due("none", desk(32).meanReach(5), 0f);
            Check.due("what no float is", Check.desk("size 3;edge 0 0 1").meanReach(0), 1f / 3f);
            Check.due("of one", desk(1).meanReach(1) + desk(1).meanReach(5), 1f);
        });
    }

    private static void components() {
        Sentence.holds("Promise 24", "the lowest node that it reaches and by which it is reached, or itself, whichever is lower.", () -> {
            BitDesk desk = desk(32);
            Check.due("of a ring", desk.component(0, 31) + " " + desk.component(0, 0), "0 0");
            Check.due("itself, that reaches nothing", desk.component(5, 31) + " " + desk.component(3, 31), "31 31");
            Check.due("itself, that reaches all but is not reached", desk.component(2, 31), 31);
            Check.due("itself, that is reached but does not reach", desk.component(2, 0) + " " + desk.component(3, 31), "0 31");
            Check.due("itself, by an edge", desk.component(4, 31), 31);
            BitDesk pair = Check.desk("size 4;edge 0 1 3;edge 0 3 1;edge 0 0 1;edge 0 3 2");
            Check.due("itself is lower", pair.component(0, 1) + " " + pair.component(0, 3), "1 1");
            Check.due("ahead and behind", pair.component(0, 0) + " " + pair.component(0, 2), "0 2");
        });
        Sentence.holds("Promise 25", "Counts the components.", () -> {
            BitDesk desk = desk(32);
            Check.due("one", desk.components(0) + " " + desk.components(1) + " " + desk(1).components(5), "1 1 1");
            Check.due("all", desk.components(5) + " " + desk.components(2) + " " + desk.components(3) + " " + desk.components(4), "32 32 32 32");
        });
    }

    private static void distances() {
        Sentence.holds("Promise 26", "Returns the number, 0 if they are one; NONE if there is no way.", () -> {
            BitDesk desk = desk(32);
            Check.due("one node", desk.distance(0, 31, 31) + " " + desk.distance(5, 0, 0) + " " + desk.distance(1, 4, 4), "0 0 0");
            Check.due("one node with an edge to itself", desk.distance(4, 31, 31), 0);
            Check.due("one edge", desk.distance(1, 31, 0) + " " + desk.distance(0, 31, 0), "1 1");
            Check.due("31 edges", desk.distance(0, 0, 31) + " " + desk.distance(3, 0, 31), "31 31");
            Check.due("no way", desk.distance(3, 31, 0) + " " + desk.distance(5, 0, 1) + " " + desk.distance(4, 31, 0) + " " + desk.distance(4, 0, 31), "-1 -1 -1 -1");
            Check.due("two edges though three were first", Check.desk("size 5;edge 0 0 1;edge 0 1 2;edge 0 2 4;edge 0 0 3;edge 0 3 4").distance(0, 0, 4), 2);
        });
    }

    private static void steps() {
        Sentence.holds("Promise 27", "of several ways the one with the lower node at the first place at which they differ.", () -> {
            BitDesk desk = Check.desk("size 6;edge 0 0 2;edge 0 0 1;edge 0 1 4;edge 0 2 3;edge 0 3 5;edge 0 4 5");
            Check.due("not the one that is lower later", desk.stepAt(0, 0, 5, 1) + "" + desk.stepAt(0, 0, 5, 2) + desk.stepAt(0, 0, 5, 3), "145");
            BitDesk later = Check.desk("size 6;edge 0 0 2;edge 0 2 4;edge 0 2 3;edge 0 3 5;edge 0 4 5;edge 0 0 1;edge 0 1 2");
            Check.due("they differ at the second place", later.stepAt(0, 0, 5, 1) + "" + later.stepAt(0, 0, 5, 2), "23");
            BitDesk low = Check.desk("size 5;edge 0 3 0;edge 0 3 4;edge 0 4 2;edge 1 3 0;edge 1 3 1;edge 1 0 4;edge 1 1 4;edge 1 4 2");
            Check.due("the lowest node leads nowhere", low.stepAt(0, 3, 2, 1) + "" + low.stepAt(0, 3, 2, 2), "42");
            Check.due("the lowest node leads on", low.stepAt(1, 3, 2, 1) + "" + low.stepAt(1, 3, 2, 2) + low.stepAt(1, 3, 2, 3), "042");
            BitDesk high = Check.desk("size 32;edge 0 31 30;edge 0 31 29;edge 0 30 0;edge 0 29 0");
            Check.due("high nodes", high.stepAt(0, 31, 0, 1), 29);
        });
        Sentence.holds("Promise 27", "Returns the node; NONE if there is no way or no such place.", () -> {
            BitDesk desk = desk(32);
            Check.due("the first place", desk.stepAt(0, 1, 0, 0), 1);
            Check.due("the last place", desk.stepAt(0, 1, 0, 31), 0);
            Check.due("the last place but one", desk.stepAt(0, 1, 0, 30), 31);
            Check.due("one node", desk.stepAt(5, 31, 31, 0) + " " + desk.stepAt(4, 31, 31, 0), "31 31");
            for (int index : new int[] {32, 33, -1, Integer.MAX_VALUE, Integer.MIN_VALUE}) {
                Check.due("place " + index + " of 31 edges", desk.stepAt(0, 1, 0, index), -1);
                Check.due("place " + index + " of no edge", desk.stepAt(4, 31, 31, index), -1);
                Check.due("place " + index + " of no way", desk.stepAt(3, 31, 0, index), -1);
            }
            Check.due("place 1 of no edge", desk.stepAt(4, 31, 31, 1), -1);
            Check.due("place 2 of an edge", desk.stepAt(0, 0, 1, 2) + " " + desk.stepAt(0, 0, 1, 1), "-1 1");
            Check.due("no way", desk.stepAt(3, 31, 0, 0) + " " + desk.stepAt(5, 0, 1, 0) + " " + desk.stepAt(3, 31, 0, 1), "-1 -1 -1");
        });
    }

    private static void cycles() {
        Sentence.holds("Promise 28", "Returns the fewest edges of a way from a node to itself, of one edge or more.", () -> {
            BitDesk desk = desk(32);
            Check.due("one edge", desk.around(4, 31) + " " + desk.around(1, 0) + " " + desk(1).around(0, 0), "1 1 1");
            Check.due("32 edges", desk.around(0, 0) + " " + desk.around(0, 31), "32 32");
            Check.due("two edges", desk(2).around(0, 1), 2);
        });
        Sentence.holds("Promise 28", "Returns the number; NONE if there is none.", () -> {
            BitDesk desk = desk(32);
            Check.due("none", desk.around(3, 0) + " " + desk.around(5, 31) + " " + desk.around(4, 0) + " " + desk.around(2, 31), "-1 -1 -1 -1");
            Check.due("ahead of a cycle and behind it", Check.desk("size 3;edge 0 0 1;edge 0 1 1;edge 0 1 2").around(0, 0), -1);
            Check.due("of one", desk(1).around(5, 0), -1);
        });
        Sentence.holds("Promise 29", "Returns the least around(int, int) of all nodes.", () -> {
            Check.due("the last node's", desk(32).girth(4), 1);
            Check.due("32 edges", desk(32).girth(0), 32);
            Check.due("the first node's", Check.desk("size 4;edge 0 0 0;edge 0 2 3;edge 0 3 2").girth(0), 1);
            Check.due("a later node's", Check.desk("size 5;fill 0 ring;edge 0 4 3").girth(0), 2);
        });
        Sentence.holds("Promise 29", "Returns the number; NONE if there is none.", () -> {
            BitDesk desk = desk(32);
            Check.due("none", desk.girth(2) + " " + desk.girth(3) + " " + desk.girth(5) + " " + desk(1).girth(5), "-1 -1 -1 -1");
        });
    }

    private static void orders() {
        Sentence.holds("Promise 30", "the lowest node again and again to which no edge comes from a node that is left.", () -> {
            BitDesk desk = desk(32);
            Check.due("from the last node on", desk.order(2, 0) + " " + desk.order(2, 31), "31 0");
            Check.due("of no edges", desk.order(5, 0) + " " + desk.order(5, 31), "0 31");
            BitDesk small = Check.desk("size 4;edge 0 2 0;edge 0 3 1");
            Check.due("a low node as soon as it can", small.order(0, 0) + "" + small.order(0, 1) + small.order(0, 2) + small.order(0, 3), "2031");
        });
        Sentence.holds("Promise 30", "NONE if there is no such place", () -> {
            BitDesk desk = desk(32);
            for (int index : new int[] {32, -1, Integer.MAX_VALUE, Integer.MIN_VALUE}) {
                Check.due("place " + index, desk.order(2, index) + " " + desk.order(5, index) + " " + desk.order(0, index), "-1 -1 -1");
            }
            Check.due("place 1 of one", desk(1).order(5, 1) + " " + desk(1).order(5, 0), "-1 0");
        });
        Sentence.holds("Promise 30", "or if no node can be taken there.", () -> {
            BitDesk desk = desk(32);
            Check.due("of a ring", desk.order(0, 0) + " " + desk.order(0, 31), "-1 -1");
            Check.due("of one with an edge to itself", desk(1).order(0, 0), -1);
            Check.due("the last one has an edge to itself", desk.order(4, 30) + " " + desk.order(4, 31), "30 -1");
            BitDesk small = Check.desk("size 5;edge 0 1 2;edge 0 2 1;edge 0 2 4;edge 0 0 1");
            Check.due("ahead of a cycle", small.order(0, 0) + " " + small.order(0, 1), "0 3");
            Check.due("in it and behind it", small.order(0, 2) + " " + small.order(0, 3) + " " + small.order(0, 4), "-1 -1 -1");
        });
    }

    private static void gains() {
        Sentence.holds("Promise 31", "Returns the number; 0 if the edge is there.", () -> {
            BitDesk desk = desk(32);
            Check.due("it is there", desk.gained(3, 0, 1) + " " + desk.gained(4, 31, 31) + " " + desk.gained(1, 31, 0), "0 0 0");
            Check.due("it is not needed", desk.gained(3, 0, 31) + " " + desk.gained(0, 5, 5), "0 0");
            Check.due("it closes the ring", desk.gained(3, 31, 0), 1024 - 496);
            Check.due("the first of all", desk.gained(5, 0, 31) + " " + desk.gained(5, 31, 31) + " " + desk(1).gained(5, 0, 0), "1 1 1");
            Check.due("an edge to itself, by which all that reach it gain nothing", desk.gained(3, 31, 31), 1);
            Check.due("it is a prediction", desk.ones(3) + " " + desk.count(3), "31 2");
        });
        Sentence.holds("Promise 33", "Finds the edge that is not there with the greatest gained(int, int, int).", () -> {
            BitDesk desk = desk(32);
            Check.due("of a way", desk.bestEdge(3), 32 * 31);
            Check.due("of lower", desk.bestEdge(2), 31);
            Check.due("an edge to itself", Check.desk("size 2;edge 0 0 0;edge 0 0 1;edge 0 1 0").bestEdge(0), 33);
        });
        Sentence.holds("Promise 33", "Returns 32 * a + b, the least of several; NONE if all edges are there.", () -> {
            BitDesk desk = desk(32);
            Check.due("all are there", desk.bestEdge(1) + " " + desk(1).bestEdge(0) + " " + desk(2).bestEdge(1), "-1 -1 -1");
            Check.due("none is there", desk.bestEdge(5) + " " + desk(1).bestEdge(5), "0 0");
            Check.due("none gains: the least that is not there", desk.bestEdge(0), 0);
            desk.put(1, 31, 31, false);
            Check.due("the last one is not there", desk.bestEdge(1), 32 * 31 + 31);
            desk.put(1, 0, 31, false);
            Check.due("two are not there", desk.bestEdge(1), 31);
            BitDesk several = Check.desk("size 4;edge 0 0 1;edge 0 2 3");
            Check.due("several gain four", several.gained(0, 1, 2) + " " + several.gained(0, 3, 0) + " " + several.bestEdge(0), "4 4 34");
        });
    }

    private static void losses() {
        Sentence.holds("Promise 32", "Returns the number; NONE if the edge is not there.", () -> {
            BitDesk desk = desk(32);
            Check.due("it is not there", desk.lost(3, 31, 0) + " " + desk.lost(5, 0, 0) + " " + desk.lost(4, 31, 0) + " " + desk.lost(4, 0, 31), "-1 -1 -1 -1");
            Check.due("it is not there, but is of no use", desk.lost(0, 0, 2), -1);
            Check.due("it is not needed", desk.lost(1, 31, 0) + " " + desk.lost(1, 5, 5), "0 0");
            Check.due("it is all there is", desk.lost(4, 31, 31) + " " + desk(1).lost(1, 0, 0), "1 1");
            Check.due("the ring falls", desk.lost(0, 31, 0) + " " + desk.lost(0, 0, 1), "528 528");
            Check.due("it is a prediction", desk.ones(0) + " " + desk.count(3), "32 2");
        });
        Sentence.holds("Promise 34", "Finds the edge with the greatest lost(int, int, int).", () -> {
            Check.due("the middle of a way", Check.desk("size 4;edge 0 0 1;edge 0 1 2;edge 0 2 3").weakest(0), 34);
            Check.due("not the first edge", Check.desk("size 3;edge 0 0 0;edge 0 1 2;edge 0 2 1").weakest(0), 34);
        });
        Sentence.holds("Promise 34", "Returns 32 * a + b, the least of several; NONE without edges.", () -> {
            BitDesk desk = desk(32);
            Check.due("without edges", desk.weakest(5) + " " + desk(1).weakest(5), "-1 -1");
            Check.due("the least of several", desk.weakest(0), 1);
            Check.due("none loses: the least that is there", desk.weakest(1), 0);
            Check.due("the last one alone", desk.weakest(4), 32 * 31 + 31);
            Check.due("the middle of a way", desk.weakest(3), 32 * 15 + 16);
            Check.due("of one", desk(1).weakest(1), 0);
        });
    }

    private static void triangles() {
        Sentence.holds("Promise 35", "Counts the ordered triples of unlike nodes a, b and c", () -> {
            Check.due("none of two nodes", desk(2).triangles(1) + " " + desk(1).triangles(1), "0 0");
            Check.due("three nodes", desk(3).triangles(0) + " " + desk(3).triangles(1) + " " + desk(3).triangles(2), "3 6 0");
            Check.due("32 nodes", desk(32).triangles(1) + " " + desk(32).triangles(0) + " " + desk(32).triangles(5), "29760 0 0");
            Check.due("a node is unlike itself alone", Check.desk("size 3;edge 0 0 0;edge 0 0 1;edge 0 1 0;edge 0 1 1").triangles(0), 0);
        });
    }
}
