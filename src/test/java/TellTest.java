/** Promises 5 to 12: pages, threads, what they are told, and where they go. */
public final class TellTest {
    private static final Due due = new Due();

    public static void main(String[] args) {
        pages();
        threads();
        accesses();
        rules();
        places();
        settles();
        swaps();
        due.end();
    }

    private static void pages() {
        FarCells x = new FarCells(0, 0, 0);
        due.is("kind -1", x.page(-1), -1);
        due.is("kind 4", x.page(4), -1);
        for (int p = 0; p < 20; p++) {
            due.is("page", x.page(p % 4), p);
            due.is("its kind", x.look(p, 0), p % 4);
            due.is("it lies nowhere", x.look(p, 1), -2);
        }
        due.is("a page too many", x.page(0), -2);
        due.is("-1 goes before -2", x.page(4), -1);
        due.is("pages", x.count(4), 20);
    }

    private static void threads() {
        FarCells x = new FarCells(0, 0, 0);
        due.is("no such node", x.thread(2), -1);
        due.is("no such node", x.thread(-1), -1);
        for (int t = 0; t < 10; t++) {
            due.is("thread", x.thread(t % 2), t);
            due.is("its node", x.about(t, 0), t % 2);
            due.is("its place", x.about(t, 7), t / 2);
        }
        due.is("a thread too many", x.thread(0), -2);
        due.is("-1 goes before -2", x.thread(2), -1);
        due.is("threads", x.count(5), 10);
        due.is("threads on 1", x.node(1, 3), 5);
    }

    private static void accesses() {
        FarCells x = new FarCells(0, 0, 0);
        due.is("no such thread", x.access(0, 0, 0, false, 0), -1);
        x.thread(0);
        due.is("page -1", x.access(0, -1, 0, false, 0), -1);
        due.is("page 31", x.access(0, 31, 0, false, 0), -1);
        due.is("cell -1", x.access(0, 0, -1, false, 0), -1);
        due.is("cell 8", x.access(0, 0, 8, false, 0), -1);
        due.is("none was told", x.about(0, 2), 0);
        for (int i = 1; i <= 60; i++) {
            due.is("told", x.access(0, 0, i % 4, i % 2 == 0, i), i);
        }
        due.is("one too many", x.access(0, 0, 0, false, 0), -2);
        due.is("-1 goes before -2", x.access(0, 31, 0, false, 0), -1);
        x.page(0);
        x.run(10);
        due.is("those that went count", x.access(0, 0, 0, false, 0), -2);
        due.is("left", x.about(0, 2), 50);
        due.is("went", x.about(0, 1), 10);
        FarCells y = new FarCells(0, 0, 0);
        y.thread(1);
        due.is("page 30, cell 7 may be told", y.access(0, 30, 7, true, 1), 1);
        y.run(1);
        due.is("an ended thread is told nothing", y.access(0, 0, 0, false, 0), -1);
    }

    private static void rules() {
        FarCells x = new FarCells(0, 0, 0);
        int[][] wrong = {{-1, 0, 1}, {3, 0, 1}, {0, -1, 1}, {0, 51, 1}, {0, 0, 0}, {0, 0, 11}};
        for (int[] w : wrong) {
            due.is("rule", x.rule(w[0], w[1], w[2]), -1);
            due.is("other", x.other(w[0], w[1], w[2], 1), -1);
        }
        due.is("least", x.rule(0, 0, 1), 0);
        due.is("greatest", x.rule(2, 50, 10), 0);
        due.is("fault price", x.prices(-1, 0), -1);
        due.is("fault price", x.prices(21, 0), -1);
        due.is("move price", x.prices(0, -1), -1);
        due.is("move price", x.prices(0, 51), -1);
        due.is("least", x.prices(0, 0), 0);
        due.is("greatest", x.prices(20, 50), 0);
    }

    private static void places() {
        FarCells x = new FarCells(0, 0, 0);
        due.is("no such page", x.place(0, 0), -1);
        for (int p = 0; p < 4; p++) {
            x.page(0);
        }
        x.page(2);
        x.page(3);
        due.is("no such node", x.place(0, 2), -1);
        due.is("no such node", x.place(0, -1), -1);
        for (int p = 0; p < 3; p++) {
            due.is("placed", x.place(p, 1), 0);
        }
        due.is("it lies somewhere", x.place(0, 0), -3);
        due.is("woven", x.place(4, 1), 0);
        due.is("its base", x.look(4, 1), 1);
        due.is("a place on each node", x.node(0, 0) * 10 + x.node(1, 0), 14);
        due.is("no room", x.place(3, 1), -2);
        due.is("-2 goes before -3", x.place(0, 1), -2);
        due.is("a woven one wants room on each node", x.place(4, 0), -2);
        due.is("there it has room", x.place(3, 0), 0);
        due.is("pinned", x.place(5, 0), 0);
        due.is("places taken", x.node(0, 0), 3);
        due.is("-1 goes before -2", x.place(6, 1), -1);
    }

    private static void settles() {
        FarCells x = new FarCells(0, 0, 0);
        due.is("no such thread", x.settle(0, 0), -1);
        for (int t = 0; t < 4; t++) {
            x.thread(t / 2);
        }
        due.is("no such node", x.settle(0, 2), -1);
        due.is("where it was", x.settle(0, 1), 0);
        due.is("the end of the queue", x.about(0, 7), 2);
        due.is("the one behind it moved up", x.about(1, 7), 0);
        due.is("to where it is", x.settle(2, 1), 1);
        due.is("the end of the same queue", x.about(2, 7), 2);
        due.is("the others move up", x.about(3, 7) * 10 + x.about(0, 7), 1);
        x.page(0);
        x.place(0, 1);
        x.access(1, 0, 0, false, 0);
        x.run(1);
        due.is("under way", x.settle(1, 1), -3);
        due.is("-1 goes before -3", x.settle(1, 2), -1);
        x.run(4);
        due.is("done", x.settle(1, 1), 0);
        due.is("threads there", x.node(0, 3) * 10 + x.node(1, 3), 4);
    }

    private static void swaps() {
        FarCells x = new FarCells(0, 0, 0);
        for (int t = 0; t < 4; t++) {
            x.thread(t == 3 ? 1 : 0);
        }
        due.is("no such thread", x.swap(0, 4), -1);
        due.is("no such thread", x.swap(-1, 0), -1);
        due.is("one thread", x.swap(1, 1), -1);
        due.is("on one node", x.swap(0, 2), 0);
        due.is("places", x.about(0, 7) * 10 + x.about(2, 7), 20);
        due.is("on two nodes", x.swap(1, 3), 0);
        due.is("nodes", x.about(1, 0) * 10 + x.about(3, 0), 10);
        due.is("places", x.about(1, 7) * 10 + x.about(3, 7), 1);
        x.page(0);
        x.place(0, 1);
        x.access(2, 0, 0, false, 0);
        x.run(1);
        due.is("the first is under way", x.swap(2, 0), -3);
        due.is("the second is under way", x.swap(0, 2), -3);
        due.is("-1 goes before -3", x.swap(2, 2), -1);
        due.is("others may", x.swap(0, 1), 0);
        x.run(4);
        due.is("done", x.swap(0, 2), 0);
    }
}
