/** Promises 13 to 19, 21 and 26: ticks, tries, placing, faults, moves, copies, bills and the log. */
public final class RunTest {
    private static final Due due = new Due();

    public static void main(String[] args) {
        ticks();
        queuesTurn();
        placedAtHand();
        placedByTurns();
        placedOnTheEmptiest();
        wovenPages();
        failures();
        waits();
        faultsAndMoves();
        movesThatAreNotDone();
        copies();
        copiesWithoutRoom();
        wrongQuestions();
        longLog();
        due.end();
    }

    /** A thread on a node that reads cell 0 of the pages, one behind the other. */
    private static int reader(FarCells x, int node, int... pages) {
        int t = x.thread(node);
        for (int p : pages) {
            x.access(t, p, 0, false, 0);
        }
        return t;
    }

    private static void pages(FarCells x, int kind, int n) {
        for (int i = 0; i < n; i++) {
            x.page(kind);
        }
    }

    private static void ticks() {
        FarCells x = new FarCells(0, 0, 0);
        due.is("run(0)", x.run(0), -1);
        due.is("run(-1)", x.run(-1), -1);
        due.is("run(201)", x.run(201), -1);
        due.is("no tick is closed", x.count(0), 1);
        due.is("nothing to do", x.run(200), 0);
        due.is("the tick that is open", x.count(0), 201);
        x.page(0);
        x.place(0, 1);
        reader(x, 0, 0, 0);
        due.is("one goes", x.run(1), 1);
        due.is("to go", x.about(0, 3), 4);
        due.is("left", x.about(0, 2), 1);
        due.is("went", x.about(0, 1), 1);
        due.is("free", x.node(0, 2) * 10 + x.node(1, 2), 1);
        due.is("under way", x.run(4), 0);
        due.is("done", x.about(0, 3), 0);
        due.is("free again", x.node(0, 2), 1);
        due.is("the next one", x.run(1), 1);
        due.is("left", x.about(0, 2), 0);
        due.is("bill of the thread", x.about(0, 6), 10);
        due.is("bill of the page", x.look(0, 6), 10);
        due.is("bill of the node", x.node(0, 1) * 100 + x.node(1, 1), 1000);
        due.is("went", x.count(6), 2);
        due.is("cost", x.count(7), 10);
        due.is("log tick", x.log(0, 0), 201);
        due.is("log tick", x.log(1, 0), 206);
        x.run(4);
        x.settle(0, 1);
        x.access(0, 0, 3, true, -5);
        x.run(1);
        due.is("each node is billed for the threads that it had then", x.node(0, 1) * 100 + x.node(1, 1), 1001);
        int[] logged = {211, 0, 1, 0, 3, 1, 1, 1, 0, 0};
        for (int what = 0; what < 10; what++) {
            due.is("log(2, " + what + ")", x.log(2, what), logged[what]);
        }
        due.is("cell", Due.cell(x, 0, 3), "-5");
    }

    private static void queuesTurn() {
        FarCells x = new FarCells(0, 0, 0);
        x.page(0);
        for (int t = 0; t < 3; t++) {
            reader(x, 0, 0, 0);
        }
        due.is("one processor", x.run(1), 1);
        due.is("places", x.about(0, 7) * 100 + x.about(1, 7) * 10 + x.about(2, 7), 201);
        x.run(2);
        due.is("first round", x.log(0, 1) * 100 + x.log(1, 1) * 10 + x.log(2, 1), 12);
        x.run(3);
        due.is("second round", x.log(3, 1) * 100 + x.log(4, 1) * 10 + x.log(5, 1), 12);

        FarCells y = new FarCells(0, 1, 0);
        y.page(0);
        for (int t = 0; t < 3; t++) {
            reader(y, 0, 0, 0);
        }
        y.swap(0, 1);
        due.is("two processors", y.run(1), 2);
        due.is("the first of the queue goes first", y.log(0, 1) * 10 + y.log(1, 1), 10);
        due.is("those that are done line up by numbers", y.about(0, 7) * 100 + y.about(1, 7) * 10 + y.about(2, 7), 120);
        y.run(1);
        due.is("then", y.log(2, 1) * 10 + y.log(3, 1), 20);

        FarCells z = new FarCells(0, 0, 0);
        pages(z, 0, 2);
        z.thread(1);
        reader(z, 0, 0);
        z.access(0, 1, 0, false, 0);
        z.run(1);
        due.is("node by node", z.log(0, 1) * 10 + z.log(1, 1), 10);
    }

    private static void placedAtHand() {
        FarCells x = new FarCells(1, 0, 0);
        pages(x, 0, 14);
        for (int p = 0; p < 4; p++) {
            x.place(p, 1);
        }
        reader(x, 1, 4, 5, 6, 7, 8, 9, 10, 11, 12);
        x.run(60);
        for (int p = 4; p < 8; p++) {
            due.is("the next node that has room", x.look(p, 1), 2);
        }
        for (int p = 8; p < 12; p++) {
            due.is("behind the last node 0", x.look(p, 1), 0);
        }
        due.is("no node has room", x.about(0, 5), 1);
        due.is("it lies nowhere", x.look(12, 1), -2);
        due.is("failed", x.count(10), 1);
        due.is("places taken", x.node(0, 0) * 100 + x.node(1, 0) * 10 + x.node(2, 0), 444);
        due.is("no more pages can be placed", x.place(13, 0), -2);
    }

    private static void placedByTurns() {
        FarCells x = new FarCells(1, 0, 0);
        pages(x, 0, 9);
        x.page(2);
        x.rule(1, 0, 1);
        x.place(0, 0);
        reader(x, 2, 1, 2, 9, 3);
        x.run(40);
        due.is("the first one", x.look(1, 1), 0);
        due.is("the next one", x.look(2, 1), 1);
        due.is("a woven one takes its turn", x.look(9, 1), 2);
        due.is("round", x.look(3, 1), 0);
        due.is("taken", x.node(0, 0) * 100 + x.node(1, 0) * 10 + x.node(2, 0), 421);
        x.rule(0, 0, 1);
        reader(x, 2, 4);
        x.run(10);
        due.is("at hand", x.look(4, 1), 2);
        x.rule(1, 0, 1);
        reader(x, 2, 5, 6, 7);
        x.run(40);
        due.is("turns go on where they were", x.look(5, 1), 1);
        due.is("and on", x.look(6, 1), 2);
        due.is("node 0 is full: the next one, that has room", x.look(7, 1), 1);
        reader(x, 2, 8);
        x.run(10);
        due.is("the turn behind that is node 1's, which is full", x.look(8, 1), 2);
    }

    private static void placedOnTheEmptiest() {
        FarCells x = new FarCells(1, 0, 0);
        pages(x, 0, 6);
        x.rule(2, 0, 1);
        x.place(0, 0);
        reader(x, 0, 1, 2, 3, 4);
        x.run(40);
        due.is("the least of the emptiest", x.look(1, 1), 1);
        due.is("the emptiest", x.look(2, 1), 2);
        due.is("all alike", x.look(3, 1), 0);
        due.is("then", x.look(4, 1), 1);
    }

    private static void wovenPages() {
        FarCells x = new FarCells(1, 2, 0);
        x.page(2);
        x.place(0, 2);
        x.thread(0);
        for (int c = 0; c < 4; c++) {
            x.access(0, 0, c, true, c + 1);
        }
        x.run(20);
        int[] where = {2, 0, 1, 2};
        for (int c = 0; c < 4; c++) {
            due.is("where", x.log(c, 6), where[c]);
            due.is("cost", x.log(c, 7), where[c] == 0 ? 1 : 5);
            due.is("cell", Due.cell(x, 0, c), "" + (c + 1));
        }
        due.is("no copies", x.look(0, 2), 0);
        pages(x, 0, 3);
        x.page(2);
        for (int p = 1; p < 4; p++) {
            x.place(p, 1);
        }
        due.is("node 1 is full", x.node(1, 0), 4);
        x.access(0, 4, 0, false, 0);
        x.run(1);
        due.is("a woven page fails if one node has no room", x.about(0, 5), 1);
        due.is("it lies nowhere", x.look(4, 1), -2);
    }

    private static void failures() {
        FarCells x = new FarCells(0, 0, 0);
        x.page(0);
        x.thread(0);
        x.access(0, 1, 0, false, 0);
        x.access(0, 0, 0, false, 0);
        x.thread(0);
        x.access(1, 0, 4, false, 0);
        x.thread(0);
        x.access(2, 0, 3, false, 0);
        due.is("what fails takes no processor", x.run(1), 1);
        due.is("no such page", x.about(0, 5), 1);
        due.is("none left", x.about(0, 2), 0);
        due.is("no such cell", x.about(1, 5), 1);
        due.is("not failed", x.about(2, 5), 0);
        due.is("failed", x.count(10), 2);
        due.is("the failed ones stay in the queue", x.node(0, 3), 3);
        x.page(0);
        due.is("an ended thread never goes on", x.run(5), 0);

        FarCells y = new FarCells(0, 0, 0);
        pages(y, 0, 5);
        y.link(0, 1, 0, 1);
        for (int p = 0; p < 4; p++) {
            y.place(p, 0);
        }
        reader(y, 0, 4);
        due.is("no way to where it is placed", y.run(1), 0);
        due.is("failed", y.about(0, 5), 1);
        due.is("it was placed all the same", y.look(4, 1), 1);

        FarCells z = new FarCells(0, 0, 0);
        z.thread(0);
        z.access(0, 0, 0, true, 8);
        z.page(0);
        due.is("a page that came behind the telling is there", z.run(1), 1);
    }

    private static void waits() {
        FarCells x = new FarCells(0, 2, 0);
        x.link(0, 1, 1, 1);
        pages(x, 0, 5);
        for (int p = 0; p < 3; p++) {
            x.place(p, 0);
        }
        x.place(3, 1);
        x.page(0);
        x.place(4, 0);
        reader(x, 0, 3);
        reader(x, 0, 5);
        reader(x, 0, 0);
        due.is("the second one waits, the third one goes", x.run(1), 2);
        due.is("what was placed stays", x.look(5, 1), 1);
        due.is("waits", x.about(1, 4), 1);
        due.is("it is no failure", x.about(1, 5), 0);
        due.is("left", x.about(1, 2), 1);
        due.is("it keeps its place before those that are done", x.about(1, 7), 1);
        due.is("the link is free in the next tick", x.run(1), 1);
        due.is("waits", x.linked(0, 1, 3), 1);
        due.is("over the link", x.linked(0, 1, 2), 2);

        FarCells y = new FarCells(0, 2, 0);
        y.link(0, 1, 1, 1);
        pages(y, 0, 2);
        y.place(0, 0);
        y.place(1, 1);
        reader(y, 0, 1);
        reader(y, 1, 0);
        due.is("both directions share a link", y.run(1), 1);
        due.is("the later node waits", y.about(1, 4), 1);
    }

    private static void faultsAndMoves() {
        FarCells x = new FarCells(0, 0, 0);
        x.page(0);
        x.place(0, 0);
        x.rule(0, 1, 1);
        x.prices(3, 7);
        due.is("nothing is hidden before a tick is closed", x.look(0, 3), 0);
        x.run(1);
        due.is("hidden", x.look(0, 3), 1);
        int t = reader(x, 1, 0, 0, 0);
        x.run(8);
        // FAR 2: 5, and 3 for the fault; one fault of node 1 saves 2, which is not above 7.
        due.is("cost", x.log(0, 7), 8);
        due.is("fault", x.log(0, 8) * 10 + x.log(0, 9), 10);
        due.is("kept", x.look(0, 4), 1);
        due.is("its node", x.fault(0, 0), 1);
        x.run(16);
        due.is("three faults save 6", x.look(0, 5), 0);
        x.access(t, 0, 0, true, 6);
        x.access(t, 0, 0, false, 0);
        x.run(15);
        due.is("four faults save 8: it moves", x.look(0, 1), 1);
        due.is("the access is reckoned from where it was", x.log(3, 6), 0);
        due.is("cost", x.log(3, 7), 5 + 3 + 7);
        due.is("moved", x.log(3, 8) * 10 + x.log(3, 9), 11);
        due.is("moves of the page", x.look(0, 5), 1);
        due.is("taken", x.node(0, 0) * 10 + x.node(1, 0), 1);
        x.run(1);
        due.is("at home a fault costs only its price", x.log(4, 7), 4);
        due.is("no more than four are kept", x.look(0, 4), 4);
        due.is("read", Due.read(x, t), "6");
        due.is("faults", x.count(8), 5);
        due.is("moves", x.count(9), 1);
        x.settle(t, 0);
        x.run(3);
        x.settle(t, 0);
        x.access(t, 0, 0, false, 0);
        x.run(1);
        due.is("the latest one first", x.fault(0, 0) * 1000 + x.fault(0, 1) * 100 + x.fault(0, 2) * 10 + x.fault(0, 3), 111);
        due.is("fault 4", x.fault(0, 4), -1);
        due.is("fault -1", x.fault(0, -1), -1);
        due.is("no such page", x.fault(1, 0), -1);
    }

    private static void movesThatAreNotDone() {
        // Room 4: node 1 is full, so the page stays though it would pay.
        FarCells x = new FarCells(0, 0, 0);
        pages(x, 0, 5);
        for (int p = 1; p < 5; p++) {
            x.place(p, 1);
        }
        x.place(0, 0);
        x.rule(0, 1, 10);
        x.prices(0, 0);
        x.run(1);
        reader(x, 1, 0);
        x.run(5);
        due.is("no room where it is wanted", x.look(0, 5), 0);
        due.is("cost", x.log(0, 7), 5);

        // Exactly the move price is not above it.
        FarCells y = new FarCells(0, 0, 0);
        y.page(0);
        y.place(0, 0);
        y.rule(0, 1, 3);
        y.prices(0, 6);
        y.run(1);
        reader(y, 1, 0);
        y.run(5);
        due.is("2 times 3 is not above 6", y.look(0, 5), 0);
        y.prices(0, 5);
        y.access(0, 0, 0, false, 0);
        y.run(1);
        due.is("4 times 3 is above 5", y.look(0, 5), 1);

        // Only plain pages move; all kinds are hidden and have faults.
        for (int kind = 1; kind < 4; kind++) {
            FarCells z = new FarCells(0, 0, 0);
            z.page(kind);
            z.place(0, 0);
            z.rule(0, 2, 10);
            z.prices(4, 0);
            z.run(1);
            due.is("tick 1 is not divided by 2", z.look(0, 3), 0);
            z.run(1);
            due.is("tick 2 is", z.look(0, 3), 1);
            reader(z, 1, 0);
            z.run(1);
            due.is("not hidden any more", z.look(0, 3), 0);
            due.is("a fault", z.look(0, 4), 1);
            due.is("no move", z.look(0, 5) * 10 + z.look(0, 1), 0);
            due.is("cost", z.log(0, 7), kind == 2 ? 9 : kind == 1 ? 10 : 9);
        }

        // Of two nodes that stand there as often the least one is wanted.
        FarCells v = new FarCells(1, 0, 0);
        v.page(0);
        v.place(0, 2);
        v.rule(0, 1, 1);
        v.prices(0, 3);
        v.run(1);
        reader(v, 1, 0);
        v.run(5);
        due.is("2 is not above 3", v.look(0, 5), 0);
        v.settle(0, 0);
        v.access(0, 0, 0, false, 0);
        v.run(1);
        // At node 0: 2 - 2 for the fault of node 1, and 2 - 0 for its own: 2.
        due.is("at node 0 it saves 2", v.look(0, 5), 0);
        v.run(4);
        v.prices(0, 1);
        v.settle(0, 2);
        v.access(0, 0, 0, false, 0);
        v.run(1);
        // Faults 2, 0, 1: the least is 0; 2 - 0 less what node 2 loses, 0 - 2: 0.
        due.is("its own node's faults count against it", v.look(0, 5), 0);
        v.settle(0, 1);
        v.access(0, 0, 0, false, 0);
        v.run(1);
        // Faults 1, 2, 0, 1: node 1 is wanted; 2 - 2 + 0 - 2 + 2 + 2 = 2.
        due.is("the one that stands there most often", v.look(0, 1), 1);
    }

    private static void copies() {
        FarCells x = new FarCells(2, 0, 0);
        x.page(1);
        x.place(0, 0);
        for (int t = 0; t < 4; t++) {
            reader(x, t, 0);
        }
        x.run(6);
        due.is("copies on 1, 2, 3", x.look(0, 2), 2 + 4 + 8);
        due.is("its place needs none", x.log(0, 7), 1);
        due.is("a copy costs 1", x.log(1, 7), 6);
        due.is("places taken", x.node(0, 0) * 1000 + x.node(1, 0) * 100 + x.node(2, 0) * 10 + x.node(3, 0), 1111);
        x.access(2, 0, 0, false, 0);
        x.run(1);
        due.is("a copy is at hand", x.log(4, 7) * 10 + x.log(4, 6), 12);
        x.access(2, 0, 0, true, 77);
        x.run(3);
        due.is("two copies and the old place end", x.log(5, 7), 4);
        due.is("the copy is its place", x.look(0, 1), 2);
        due.is("no copies", x.look(0, 2), 0);
        due.is("that is no move", x.look(0, 5) + x.count(9), 0);
        due.is("places taken", x.node(0, 0) * 1000 + x.node(1, 0) * 100 + x.node(2, 0) * 10 + x.node(3, 0), 10);
        x.run(1);
        x.access(3, 0, 0, false, 0);
        x.run(6);
        due.is("read", Due.read(x, 3), "77");
        x.access(0, 0, 1, true, 5);
        x.run(6);
        due.is("written from afar: the copy ends", x.log(7, 7), 6);
        due.is("its place stays", x.look(0, 1), 2);
        due.is("no copies", x.look(0, 2), 0);
        x.access(3, 0, 1, false, 0);
        x.run(6);
        x.access(2, 0, 1, true, 6);
        x.run(2);
        due.is("written at its place", x.log(9, 7), 2);
        due.is("its place stays", x.look(0, 1), 2);
        due.is("same", x.same(), 1);
    }

    private static void copiesWithoutRoom() {
        FarCells x = new FarCells(0, 0, 0);
        pages(x, 0, 4);
        for (int p = 0; p < 4; p++) {
            x.place(p, 1);
        }
        x.page(1);
        x.place(4, 0);
        reader(x, 1, 4);
        x.run(1);
        due.is("no room, no copy", x.look(4, 2), 0);
        due.is("and no price", x.log(0, 7), 5);
    }

    private static void wrongQuestions() {
        FarCells x = new FarCells(0, 0, 0);
        due.is("look at none", x.look(0, 0), -1);
        due.is("about none", x.about(0, 0), -1);
        due.is("cell of none", Due.cell(x, 0, 0), "IllegalArgumentException");
        due.is("read of none", Due.read(x, 0), "IllegalArgumentException");
        x.page(0);
        x.thread(0);
        for (int wrong : new int[] {-1, 7, Integer.MIN_VALUE, Integer.MAX_VALUE}) {
            due.is("look", x.look(0, wrong), -1);
            due.is("look", x.look(wrong, 0), -1);
        }
        for (int wrong : new int[] {-1, 8, Integer.MIN_VALUE, Integer.MAX_VALUE}) {
            due.is("about", x.about(0, wrong), -1);
            due.is("about", x.about(wrong, 0), -1);
            due.is("read", Due.read(x, wrong), "IllegalArgumentException");
            due.is("cell", Due.cell(x, wrong, 0), "IllegalArgumentException");
        }
        for (int wrong : new int[] {-1, 4, Integer.MIN_VALUE, Integer.MAX_VALUE}) {
            due.is("node", x.node(0, wrong), -1);
            due.is("node", x.node(wrong, 0), -1);
            due.is("cell", Due.cell(x, 0, wrong), "IllegalArgumentException");
        }
        due.is("cell at first", Due.cell(x, 0, 3), "0");
        due.is("read at first", Due.read(x, 0), "0");
        due.is("log of none", x.log(0, 0), -1);
        x.access(0, 0, 0, false, 0);
        x.run(1);
        due.is("log", x.log(0, 0), 1);
        due.is("log", x.log(0, 10), -1);
        due.is("log", x.log(0, -1), -1);
        due.is("log", x.log(1, 0), -1);
        due.is("log", x.log(-1, 0), -1);
        due.is("count", x.count(-1), -1);
        due.is("count", x.count(11), -1);
    }

    private static void longLog() {
        FarCells x = new FarCells(0, 0, 0);
        x.page(0);
        for (int t = 0; t < 6; t++) {
            x.thread(0);
            for (int i = 0; i < 60; i++) {
                x.access(t, 0, i % 4, true, t * 100 + i);
            }
        }
        due.is("300 go", x.run(200) + x.run(100), 300);
        due.is("the log has them all", x.log(299, 7), 1);
        due.is("same", x.same(), 1);
        due.is("one more", x.run(1), 1);
        due.is("the log is full", x.log(300, 7), -1);
        due.is("more went than it has", x.same(), -2);
        due.is("the bill goes on", x.look(0, 6), 301);
        due.is("gap by the log", x.gap(0), 0);
        due.is("best by the log", x.best(0), 300);
    }
}
