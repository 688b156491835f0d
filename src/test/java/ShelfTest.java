/** Promises 27 to 32: shelves. */
public final class ShelfTest {
    private static final Due due = new Due();

    public static void main(String[] args) {
        keeps();
        makes();
        elements();
        rowsAreOfThen();
        copies();
        copiesWithin();
        weights();
        failures();
        due.end();
    }

    private static void keeps() {
        FarCells x = new FarCells(0, 0, 0);
        due.is("no such page", x.keep(0, 1, 0), -1);
        due.is("no such page", x.keep(0, 4, 0), -1);
        x.page(1);
        due.is("no such shelf", x.keep(-1, 1, 0), -1);
        due.is("no such shelf", x.keep(8, 1, 0), -1);
        for (int wrong : new int[] {-1, 2, 5}) {
            due.is("no such thing", x.keep(0, wrong, 0), -1);
        }
        due.is("a page", x.keep(7, 1, 0), 0);
        due.is("a row of nodes without threads, whatever k is", x.keep(0, 3, -99), 0);
        due.is("it has no element", Due.element(x, 0, 0), "IllegalStateException");
        due.is("a row without elements is held", x.weight(0), -12);
        due.is("cells", x.keep(1, 4, 0), 0);
        due.is("nothing, whatever k is", x.keep(7, 0, 99), 0);
        due.is("nothing is held", x.weight(7), -11);
        due.is("refused", x.keep(1, 4, 1), -1);
        due.is("a refused call changes nothing", Due.element(x, 1, 3), "0");
    }

    private static void makes() {
        FarCells x = new FarCells(0, 0, 0);
        due.is("no such shelf", x.make(8, 3, 1), -1);
        due.is("no such shelf", x.make(-1, 3, 1), -1);
        for (int wrong : new int[] {-1, 0, 1, 2, 5}) {
            due.is("no row", x.make(0, wrong, 1), -1);
        }
        due.is("too long", x.make(0, 3, 61), -1);
        due.is("below 0", x.make(0, 3, -1), -14);
        due.is("-1 goes before -14", x.make(0, 2, -1), -1);
        due.is("nothing is held yet", x.weight(0), -11);
        due.is("60", x.make(0, 4, 60), 0);
        due.is("the last one", Due.element(x, 0, 59), "0");
        due.is("behind it", Due.element(x, 0, 60), "IllegalStateException");
        due.is("0", x.make(0, 3, 0), 0);
        due.is("no element", Due.element(x, 0, 0), "IllegalStateException");
    }

    private static void elements() {
        FarCells x = new FarCells(1, 0, 0);
        due.is("no such shelf", Due.element(x, 8, 0), "IllegalArgumentException");
        due.is("no such shelf", Due.element(x, -1, 0), "IllegalArgumentException");
        due.is("nothing is held", Due.element(x, 0, 0), "IllegalStateException");
        x.page(0);
        x.keep(0, 1, 0);
        due.is("no row", Due.element(x, 0, 0), "IllegalStateException");
        x.thread(2);
        x.thread(1);
        x.keep(0, 3, 0);
        due.is("node", Due.element(x, 0, 0), "2");
        due.is("node", Due.element(x, 0, 1), "1");
        due.is("no such place", Due.element(x, 0, 2), "IllegalStateException");
        due.is("no such place", Due.element(x, 0, -1), "IllegalStateException");
    }

    private static void rowsAreOfThen() {
        FarCells x = new FarCells(0, 0, 0);
        x.page(0);
        x.thread(0);
        x.access(0, 0, 2, true, Integer.MIN_VALUE);
        x.keep(0, 4, 0);
        x.run(1);
        x.keep(1, 4, 0);
        due.is("before", Due.element(x, 0, 2), "0");
        due.is("behind", Due.element(x, 1, 2), "" + Integer.MIN_VALUE);
        x.keep(2, 3, 0);
        x.settle(0, 1);
        due.is("the node of then", Due.element(x, 2, 0), "0");
        x.make(1, 4, 4);
        due.is("made anew", Due.element(x, 1, 2), "0");
        due.is("the cell stays", Due.cell(x, 0, 2), "" + Integer.MIN_VALUE);
    }

    private static void copies() {
        FarCells x = new FarCells(1, 0, 0);
        x.page(0);
        x.thread(2);
        x.thread(1);
        x.keep(0, 3, 0);
        x.make(1, 3, 5);
        x.make(2, 4, 5);
        x.keep(3, 1, 0);
        due.is("no such shelf", x.copy(8, 0, 1, 0, 1), -1);
        due.is("no such shelf", x.copy(0, 0, -1, 0, 1), -1);
        due.is("-1 goes before -11", x.copy(4, 0, 8, 0, 1), -1);
        due.is("nothing on the first", x.copy(4, 0, 1, 0, 1), -11);
        due.is("nothing on the second", x.copy(0, 0, 4, 0, 1), -11);
        due.is("-11 goes before -12", x.copy(3, 0, 4, 0, 1), -11);
        due.is("a page", x.copy(3, 0, 1, 0, 1), -12);
        due.is("to a page", x.copy(0, 0, 3, 0, 1), -12);
        due.is("page to page", x.copy(3, 0, 3, 0, 1), -12);
        due.is("bytes to ints", x.copy(0, 0, 2, 0, 1), -12);
        due.is("-12 goes before -13", x.copy(0, -1, 2, 0, 1), -12);
        int[][] wrong = {{-1, 0, 1}, {0, -1, 1}, {0, 0, -1}, {0, 0, 3}, {1, 0, 2}, {3, 0, 0}, {0, 6, 0}, {0, 4, 2},
            {Integer.MAX_VALUE, 0, 1}, {0, Integer.MAX_VALUE, 1}, {1, 1, Integer.MAX_VALUE},
            {Integer.MIN_VALUE, 0, Integer.MIN_VALUE}, {0, 0, Integer.MIN_VALUE}};
        for (int[] w : wrong) {
            due.is("copy(0, " + w[0] + ", 1, " + w[1] + ", " + w[2] + ")", x.copy(0, w[0], 1, w[1], w[2]), -13);
        }
        due.is("none, at both ends", x.copy(0, 2, 1, 5, 0), 0);
        due.is("two", x.copy(0, 0, 1, 3, 2), 2);
        due.is("elements", Due.element(x, 1, 2) + Due.element(x, 1, 3) + Due.element(x, 1, 4), "021");
        due.is("the first row stays", Due.element(x, 0, 0) + Due.element(x, 0, 1), "21");
    }

    private static void copiesWithin() {
        FarCells x = new FarCells(0, 0, 0);
        x.page(0);
        x.thread(0);
        for (int c = 0; c < 4; c++) {
            x.access(0, 0, c, true, c + 1);
        }
        x.run(4);
        x.keep(0, 4, 0);
        due.is("forth", x.copy(0, 0, 0, 1, 3), 3);
        due.is("as they were", row(x), "1123");
        x.keep(0, 4, 0);
        due.is("back", x.copy(0, 1, 0, 0, 3), 3);
        due.is("as they were", row(x), "2344");
    }

    private static String row(FarCells x) {
        return Due.element(x, 0, 0) + Due.element(x, 0, 1) + Due.element(x, 0, 2) + Due.element(x, 0, 3);
    }

    private static void weights() {
        FarCells x = new FarCells(1, 0, 8);
        due.is("no such shelf", x.weight(8), -1);
        due.is("no such shelf", x.weight(-1), -1);
        due.is("nothing", x.weight(0), -11);
        int[] kinds = {3, 2, 1, 0, 2};
        for (int kind : kinds) {
            x.page(kind);
        }
        x.make(0, 4, 1);
        due.is("a row", x.weight(0), -12);
        x.place(1, 2);
        x.place(2, 0);
        for (int p = 0; p < 5; p++) {
            x.keep(p, 1, p);
        }
        due.is("pinned", x.weight(0), 1 + 300);
        due.is("woven", x.weight(1), 2 * 2 + 2);
        due.is("copied without copies", x.weight(2), 3);
        due.is("plain", x.weight(3), 4);
        due.is("woven, nowhere", x.weight(4), 10);
        for (int t = 0; t < 2; t++) {
            x.thread(t + 1);
            x.access(t, 2, 0, false, 0);
        }
        x.run(1);
        x.place(4, 1);
        due.is("the page as it was", x.weight(2), 3);
        due.is("the page as it was", x.weight(4), 10);
        x.keep(2, 1, 2);
        x.keep(4, 1, 4);
        due.is("two copies", x.weight(2), 3 + 20);
        due.is("woven", x.weight(4), 11);
    }

    private static void failures() {
        FarCells x = new FarCells(0, 0, 0);
        due.is("no such shelf", x.toss(8), -1);
        due.is("no such shelf", x.toss(-1), -1);
        due.is("nothing", x.toss(0), -11);
        x.make(0, 3, 0);
        due.is("a row", x.toss(0), -12);
        for (int p = 0; p < 8; p++) {
            x.page((p + 1) % 4);
            x.keep(p, 1, p);
            due.is("the number of the page, but plain ones have no failure", x.toss(p), (p + 1) % 4 == 0 ? -15 : p);
        }
    }
}
