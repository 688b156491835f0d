/** Promises 27 to 32 at their edges: one method for each sentence that names one. */
public final class EdgeShelfTest {
    private static final String NO_ARGUMENT = "IllegalArgumentException";
    private static final String NO_STATE = "IllegalStateException";
    private static final Due due = new Due();

    public static void main(String[] args) {
        keepShelves();
        keepWhats();
        keepPages();
        keepNothing();
        keepNodesOfNoThreads();
        keepNodesOfTenThreads();
        keepCells();
        keepIsOfThen();
        keepTakesTheOldOneAway();
        makeShelves();
        makeWhats();
        makeSizes();
        makeBelowZero();
        makeIsAllZero();
        elementWantsAShelf();
        elementOfNoRow();
        elementPlaces();
        copyWantsShelves();
        copyOfNothing();
        copyOfAnotherKind();
        copyPlaces();
        copyOfNone();
        copyOfAll();
        copyOntoItself();
        weightRefuses();
        weightOfEachKind();
        weightOfCopies();
        weightOfBases();
        tossRefuses();
        tossOfPlainOnes();
        tossOfTheOthers();
        due.end();
    }

    private static void keepShelves() {
        due.by("27: SHELF d (0 .. 7). -1");
        FarCells x = new FarCells(0, 0, 0);
        x.page(0);
        for (int what : new int[] {0, 1, 3, 4}) {
            for (int wrong : Setup.outside(0, 7)) {
                due.is("shelf " + wrong, x.keep(wrong, what, 0), -1);
            }
            due.is("the first one", x.keep(0, what, 0), 0);
            due.is("the last one", x.keep(7, what, 0), 0);
        }
    }

    private static void keepWhats() {
        due.by("27: what = 0, 1, 3, 4. -1");
        FarCells x = new FarCells(0, 0, 0);
        x.page(0);
        x.keep(0, 1, 0);
        for (int wrong : new int[] {-1, 2, 5, Setup.LEAST, Setup.GREATEST}) {
            due.is("what " + wrong, x.keep(0, wrong, 0), -1);
            due.is("the page is held still", x.weight(0), 1);
        }
    }

    private static void keepPages() {
        due.by("27: 1 PAGE k; 4 the CELLS of PAGE k. -1");
        FarCells x = new FarCells(0, 0, 0);
        due.is("no page", x.keep(0, 1, 0), -1);
        due.is("no page", x.keep(0, 4, 0), -1);
        due.is("nothing is held", x.weight(0), -11);
        Setup.pages(x, 0, 20);
        for (int wrong : Setup.outside(0, 19)) {
            due.is("page " + wrong, x.keep(0, 1, wrong), -1);
            due.is("cells of " + wrong, x.keep(0, 4, wrong), -1);
        }
        due.is("nothing is held", x.weight(0), -11);
        due.is("the last page", x.keep(0, 1, 19), 0);
        due.is("its weight", x.weight(0), 20);
        due.is("its cells", x.keep(1, 4, 19), 0);
    }

    private static void keepNothing() {
        due.by("27: what = 0 nothing");
        FarCells x = new FarCells(0, 0, 0);
        x.make(0, 3, 5);
        due.is("whatever k is", x.keep(0, 0, Setup.LEAST), 0);
        due.is("no page", x.weight(0), -11);
        due.is("no row", Due.element(x, 0, 0), NO_STATE);
        due.is("again", x.keep(0, 0, 20), 0);
    }

    private static void keepNodesOfNoThreads() {
        due.by("27: 3 a ROW of bytes: the NODES of all THREADS: none");
        FarCells x = new FarCells(0, 0, 0);
        due.is("whatever k is", x.keep(0, 3, -5), 0);
        due.is("it has no place", Due.element(x, 0, 0), NO_STATE);
        due.is("but it is a row", x.weight(0), -12);
        x.make(1, 3, 0);
        due.is("of bytes", x.copy(0, 0, 1, 0, 0), 0);
        x.make(1, 4, 0);
        due.is("not of ints", x.copy(0, 0, 1, 0, 0), -12);
    }

    private static void keepNodesOfTenThreads() {
        due.by("27: 3 a ROW of bytes: the NODES of all THREADS");
        FarCells x = new FarCells(2, 0, 0);
        for (int t = 0; t < 10; t++) {
            x.thread((t + 3) % 4);
        }
        x.keep(5, 3, 0);
        due.is("all of them", Setup.row(x, 5, 10), "3 0 1 2 3 0 1 2 3 0");
        due.is("no more", Due.element(x, 5, 10), NO_STATE);
    }

    private static void keepCells() {
        due.by("27: 4 a ROW of ints: the CELLS of PAGE k");
        FarCells x = new FarCells(0, 0, 0);
        Setup.pages(x, 0, 2);
        x.thread(0);
        int[] values = {Setup.LEAST, Setup.GREATEST, -1, 300};
        for (int c = 0; c < 4; c++) {
            x.access(0, 1, c, true, values[c]);
        }
        x.run(4);
        x.keep(0, 4, 1);
        due.is("whole ints", Setup.row(x, 0, 4), "-2147483648 2147483647 -1 300");
        due.is("four of them", Due.element(x, 0, 4), NO_STATE);
        x.keep(0, 4, 0);
        due.is("of the other page", Setup.row(x, 0, 4), "0 0 0 0");
    }

    private static void keepIsOfThen() {
        due.by("Terms: a PAGE (as it is then)");
        FarCells x = new FarCells(1, 0, 0);
        x.page(1);
        x.page(2);
        x.thread(1);
        x.place(0, 0);
        x.keep(0, 1, 0);
        x.keep(1, 1, 1);
        x.keep(2, 3, 0);
        x.keep(3, 4, 0);
        x.place(1, 2);
        x.access(0, 0, 0, false, 0);
        x.run(10);
        due.is("a copy came", x.look(0, 2), 2);
        x.access(0, 0, 0, true, 5);
        x.run(10);
        x.access(0, 0, 0, false, 5);
        x.settle(0, 2);
        x.run(10);
        due.is("the page without copies", x.weight(0), 1);
        due.is("the page that lay nowhere", x.weight(1), 4);
        due.is("the node of then", Due.element(x, 2, 0), "1");
        due.is("the cell of then", Due.element(x, 3, 0), "0");
        due.is("the page of now has a copy", x.look(0, 2), 4);
        x.keep(0, 1, 0);
        x.keep(1, 1, 1);
        x.keep(2, 3, 0);
        x.keep(3, 4, 0);
        due.is("now", x.weight(0) * 100 + x.weight(1), 1106);
        due.is("now", Due.element(x, 2, 0) + " " + Due.element(x, 3, 0), "2 5");
    }

    private static void keepTakesTheOldOneAway() {
        due.by("27: SHELF d gets");
        FarCells x = new FarCells(0, 0, 0);
        x.page(0);
        x.make(0, 4, 60);
        x.keep(0, 4, 0);
        due.is("a shorter row", Due.element(x, 0, 4), NO_STATE);
        x.keep(0, 1, 0);
        due.is("a page", Due.element(x, 0, 0), NO_STATE);
        due.is("its weight", x.weight(0), 1);
        x.keep(0, 3, 0);
        due.is("a row", x.weight(0), -12);
        x.make(0, 3, 1);
        due.is("one place", Due.element(x, 0, 0) + " " + Due.element(x, 0, 1), "0 " + NO_STATE);
        due.is("the others hold nothing", x.weight(1), -11);
    }

    private static void makeShelves() {
        due.by("28: SHELF d (0 .. 7). -1");
        FarCells x = new FarCells(0, 0, 0);
        for (int what = 3; what <= 4; what++) {
            for (int wrong : Setup.outside(0, 7)) {
                due.is("shelf " + wrong, x.make(wrong, what, 1), -1);
            }
            due.is("the first one", x.make(0, what, 1), 0);
            due.is("the last one", x.make(7, what, 1), 0);
        }
    }

    private static void makeWhats() {
        due.by("28: what 3, 4. -1");
        FarCells x = new FarCells(0, 0, 0);
        x.page(0);
        for (int wrong : new int[] {2, 5, 0, 1, -1, Setup.LEAST, Setup.GREATEST}) {
            due.is("what " + wrong, x.make(0, wrong, 1), -1);
            due.is("nothing is held", x.weight(0), -11);
        }
    }

    private static void makeSizes() {
        due.by("28: n up to 60. -1");
        FarCells x = new FarCells(0, 0, 0);
        for (int what = 3; what <= 4; what++) {
            due.is("60", x.make(0, what, 60), 0);
            due.is("the last one", Due.element(x, 0, 59), "0");
            due.is("no more", Due.element(x, 0, 60), NO_STATE);
            due.is("61", x.make(0, what, 61), -1);
            due.is("as great as can be", x.make(0, what, Setup.GREATEST), -1);
            due.is("the old one is held still", Due.element(x, 0, 59), "0");
            due.is("0", x.make(0, what, 0), 0);
            due.is("no place", Due.element(x, 0, 0), NO_STATE);
            due.is("but a row", x.weight(0), -12);
        }
    }

    private static void makeBelowZero() {
        due.by("28: -14: n is below 0");
        FarCells x = new FarCells(0, 0, 0);
        for (int what = 3; what <= 4; what++) {
            due.is("-1", x.make(0, what, -1), -14);
            due.is("as little as can be", x.make(0, what, Setup.LEAST), -14);
            due.is("-1 goes before -14: shelf", x.make(8, what, -1), -1);
        }
        due.is("-1 goes before -14: what", x.make(0, 1, -1), -1);
        due.is("nothing is held", x.weight(0), -11);
    }

    private static void makeIsAllZero() {
        due.by("28: a ROW of n bytes, or ints, 0");
        FarCells x = new FarCells(2, 0, 0);
        x.page(0);
        x.thread(3);
        x.access(0, 0, 0, true, 9);
        x.run(1);
        x.keep(0, 3, 0);
        x.keep(1, 4, 0);
        due.is("before", Due.element(x, 0, 0) + Due.element(x, 1, 0), "39");
        x.make(0, 3, 2);
        x.make(1, 4, 2);
        due.is("behind", Setup.row(x, 0, 2) + "|" + Setup.row(x, 1, 2), "0 0|0 0");
    }

    private static void elementWantsAShelf() {
        due.by("29: IllegalArgumentException: no such SHELF");
        FarCells x = new FarCells(0, 0, 0);
        for (int wrong : Setup.outside(0, 7)) {
            due.is("shelf " + wrong, Due.element(x, wrong, 0), NO_ARGUMENT);
            due.is("also with no such place", Due.element(x, wrong, -1), NO_ARGUMENT);
        }
        x.make(7, 3, 1);
        due.is("the last one", Due.element(x, 7, 0), "0");
    }

    private static void elementOfNoRow() {
        due.by("29: IllegalStateException: nothing is held, it is no ROW");
        FarCells x = new FarCells(0, 0, 0);
        due.is("nothing", Due.element(x, 0, 0), NO_STATE);
        for (int kind = 0; kind <= 3; kind++) {
            x.page(kind);
            x.keep(0, 1, kind);
            due.is("a page", Due.element(x, 0, 0), NO_STATE);
        }
        x.make(0, 4, 4);
        x.keep(0, 1, 0);
        due.is("a page where a row was", Due.element(x, 0, 0), NO_STATE);
        x.make(0, 4, 4);
        x.keep(0, 0, 0);
        due.is("nothing where a row was", Due.element(x, 0, 0), NO_STATE);
    }

    private static void elementPlaces() {
        due.by("29: IllegalStateException: it has no such place");
        FarCells x = new FarCells(0, 0, 0);
        for (int what = 3; what <= 4; what++) {
            x.make(0, what, 3);
            due.is("the first one", Due.element(x, 0, 0), "0");
            due.is("the last one", Due.element(x, 0, 2), "0");
            for (int wrong : Setup.outside(0, 2)) {
                due.is("place " + wrong, Due.element(x, 0, wrong), NO_STATE);
            }
        }
    }

    private static void copyWantsShelves() {
        due.by("30: SHELF d, SHELF e. -1");
        FarCells x = new FarCells(0, 0, 0);
        x.make(0, 3, 1);
        x.make(7, 3, 1);
        for (int wrong : Setup.outside(0, 7)) {
            due.is("from " + wrong, x.copy(wrong, 0, 0, 0, 1), -1);
            due.is("to " + wrong, x.copy(0, 0, wrong, 0, 1), -1);
            due.is("-1 goes before -11", x.copy(1, 0, wrong, 0, 1), -1);
            due.is("-1 goes before -13", x.copy(0, -1, wrong, 0, 1), -1);
        }
        due.is("the first and the last", x.copy(0, 0, 7, 0, 1), 1);
    }

    private static void copyOfNothing() {
        due.by("30: -11: of either");
        FarCells x = new FarCells(0, 0, 0);
        x.page(0);
        x.make(0, 3, 1);
        x.keep(1, 1, 0);
        due.is("from nothing", x.copy(2, 0, 0, 0, 1), -11);
        due.is("to nothing", x.copy(0, 0, 2, 0, 1), -11);
        due.is("both", x.copy(2, 0, 3, 0, 1), -11);
        due.is("one that holds nothing onto itself", x.copy(2, 0, 2, 0, 0), -11);
        due.is("-11 goes before -12", x.copy(1, 0, 2, 0, 1), -11);
        due.is("-11 goes before -12", x.copy(2, 0, 1, 0, 1), -11);
        due.is("-11 goes before -13", x.copy(0, 5, 2, 0, 1), -11);
        x.keep(0, 0, 0);
        due.is("nothing any more", x.copy(0, 0, 0, 0, 1), -11);
    }

    private static void copyOfAnotherKind() {
        due.by("30: -12: one is no ROW, or they are not of one kind");
        FarCells x = new FarCells(0, 0, 0);
        x.page(0);
        x.make(0, 3, 1);
        x.make(1, 4, 1);
        x.keep(2, 1, 0);
        due.is("from a page", x.copy(2, 0, 0, 0, 1), -12);
        due.is("to a page", x.copy(1, 0, 2, 0, 1), -12);
        due.is("page to page", x.copy(2, 0, 2, 0, 0), -12);
        due.is("bytes to ints", x.copy(0, 0, 1, 0, 1), -12);
        due.is("ints to bytes", x.copy(1, 0, 0, 0, 1), -12);
        due.is("also none of them", x.copy(1, 0, 0, 0, 0), -12);
        due.is("-12 goes before -13", x.copy(1, -1, 0, 9, -1), -12);
    }

    private static void copyPlaces() {
        due.by("30: -13: n, i or j is below 0, or beyond either's end");
        FarCells x = new FarCells(0, 0, 0);
        int big = Setup.GREATEST;
        int[][] wrong = {{-1, 0, 1}, {0, -1, 1}, {0, 0, -1}, {-1, 0, 0}, {0, -1, 0}, {1, 1, -1}, {0, 0, 4}, {1, 0, 3},
            {3, 0, 1}, {4, 0, 0}, {0, 5, 1}, {0, 6, 0}, {0, 4, 2}, {0, 3, 3}, {big, 0, 1}, {0, big, 1}, {0, 0, big},
            {1, 1, big}, {big, big, big}, {big, 0, big}, {Setup.LEAST, 0, 1}, {0, Setup.LEAST, 1},
            {0, 0, Setup.LEAST}, {big, 0, Setup.LEAST}};
        for (int what = 3; what <= 4; what++) {
            x.make(0, what, 3);
            x.make(1, what, 5);
            for (int[] w : wrong) {
                due.is("copy(0, " + w[0] + ", 1, " + w[1] + ", " + w[2] + ")", x.copy(0, w[0], 1, w[1], w[2]), -13);
            }
            due.is("to the very end", x.copy(0, 1, 1, 3, 2), 2);
            due.is("the end of the shorter one counts", x.copy(1, 0, 0, 0, 4), -13);
        }
    }

    private static void copyOfNone() {
        due.by("30: n elements: n (0)");
        FarCells x = new FarCells(0, 0, 0);
        x.make(0, 3, 3);
        x.make(1, 3, 0);
        due.is("none", x.copy(0, 0, 0, 0, 0), 0);
        due.is("none, behind the last ones", x.copy(0, 3, 1, 0, 0), 0);
        due.is("none, to the end", x.copy(1, 0, 0, 3, 0), 0);
        due.is("one of an empty row", x.copy(1, 0, 0, 0, 1), -13);
    }

    private static void copyOfAll() {
        due.by("30: come to the ROW on SHELF e, from place j: n");
        FarCells x = new FarCells(2, 0, 0);
        Setup.threads(x, 3, 1);
        Setup.threads(x, 1, 1);
        x.keep(0, 3, 0);
        x.make(1, 3, 60);
        for (int j = 0; j < 60; j += 2) {
            due.is("two", x.copy(0, 0, 1, j, 2), 2);
        }
        x.make(2, 3, 60);
        due.is("60", x.copy(1, 0, 2, 0, 60), 60);
        due.is("the last ones", Due.element(x, 2, 57) + Due.element(x, 2, 58) + Due.element(x, 2, 59), "131");
        due.is("the row it came from stays", Setup.row(x, 0, 2), "3 1");
        due.is("one more would be beyond", x.copy(1, 0, 2, 0, 61), -13);
    }

    private static void copyOntoItself() {
        due.by("30: (as they all were before)");
        FarCells x = new FarCells(2, 0, 0);
        x.page(0);
        x.thread(0);
        for (int t = 1; t < 4; t++) {
            x.thread(t);
        }
        for (int c = 0; c < 4; c++) {
            x.access(0, 0, c, true, c);
        }
        x.run(4);
        for (int what = 3; what <= 4; what++) {
            x.keep(0, what, 0);
            due.is("forth", x.copy(0, 0, 0, 1, 3), 3);
            due.is("row", Setup.row(x, 0, 4), "0 0 1 2");
            x.keep(0, what, 0);
            due.is("back", x.copy(0, 1, 0, 0, 3), 3);
            due.is("row", Setup.row(x, 0, 4), "1 2 3 3");
            due.is("all onto itself", x.copy(0, 0, 0, 0, 4), 4);
            due.is("row", Setup.row(x, 0, 4), "1 2 3 3");
        }
    }

    private static void weightRefuses() {
        due.by("31: -1, -11, -12");
        FarCells x = new FarCells(0, 0, 0);
        for (int wrong : Setup.outside(0, 7)) {
            due.is("shelf " + wrong, x.weight(wrong), -1);
        }
        due.is("nothing", x.weight(7), -11);
        x.make(7, 3, 0);
        due.is("bytes", x.weight(7), -12);
        x.make(7, 4, 60);
        due.is("ints", x.weight(7), -12);
    }

    private static void weightOfEachKind() {
        due.by("31: its number and 1; of PINNED ones 300 more; of WOVEN ones twice what it would have as PLAIN");
        FarCells x = new FarCells(0, 0, 0);
        for (int p = 0; p < 20; p++) {
            x.page(p % 4);
        }
        int[][] table = {{0, 1}, {1, 2}, {2, 6}, {3, 304}, {16, 17}, {17, 18}, {18, 38}, {19, 320}};
        for (int[] t : table) {
            x.keep(0, 1, t[0]);
            due.is("page " + t[0], x.weight(0), t[1]);
        }
    }

    private static void weightOfCopies() {
        due.by("31: of COPIED ones 10 more for each COPY");
        FarCells x = new FarCells(2, 0, 0);
        Setup.placed(x, 1, 2, 1);
        int[] weights = {11, 21, 21, 31};
        for (int node = 0; node < 4; node++) {
            Setup.reader(x, node, 0);
            x.run(10);
            x.keep(0, 1, 0);
            due.is("behind a reader on node " + node, x.weight(0), weights[node]);
        }
    }

    private static void weightOfBases() {
        due.by("31: of WOVEN ones .. and BASE (0 if it lies nowhere)");
        FarCells x = new FarCells(2, 0, 0);
        for (int p = 0; p < 4; p++) {
            x.page(2);
            x.keep(0, 1, p);
            due.is("nowhere", x.weight(0), 2 * (p + 1));
            x.place(p, p);
            x.keep(0, 1, p);
            due.is("base " + p, x.weight(0), 2 * (p + 1) + p);
        }
        FarCells y = new FarCells(2, 0, 0);
        Setup.placed(y, 0, 3, 1);
        Setup.placed(y, 3, 3, 1);
        y.keep(0, 1, 0);
        y.keep(1, 1, 1);
        due.is("no base of others", y.weight(0) * 1000 + y.weight(1), 1302);
    }

    private static void tossRefuses() {
        due.by("32: -1, -11, -12");
        FarCells x = new FarCells(0, 0, 0);
        for (int wrong : Setup.outside(0, 7)) {
            due.is("shelf " + wrong, x.toss(wrong), -1);
        }
        due.is("nothing", x.toss(7), -11);
        x.make(7, 3, 0);
        due.is("bytes", x.toss(7), -12);
        x.make(7, 4, 60);
        due.is("ints", x.toss(7), -12);
    }

    private static void tossOfPlainOnes() {
        due.by("32: -15: PLAIN ones have none");
        FarCells x = new FarCells(0, 0, 0);
        Setup.pages(x, 0, 20);
        x.place(19, 1);
        for (int p = 0; p < 20; p++) {
            x.keep(0, 1, p);
            due.is("page " + p, x.toss(0), -15);
        }
    }

    private static void tossOfTheOthers() {
        due.by("32: the FAILURE of the PAGE is thrown, and caught: its number");
        for (int kind = 1; kind <= 3; kind++) {
            FarCells x = new FarCells(0, 0, 0);
            Setup.pages(x, kind, 20);
            for (int p = 0; p < 20; p++) {
                x.keep(7, 1, p);
                due.is("page " + p + " of kind " + kind, x.toss(7), p);
                due.is("again", x.toss(7), p);
            }
        }
    }
}
