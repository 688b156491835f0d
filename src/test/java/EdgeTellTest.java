/** Promises 5 to 12 at their edges: one method for each sentence that names one. */
public final class EdgeTellTest {
    private static final int LEAST = Setup.LEAST;
    private static final int GREATEST = Setup.GREATEST;
    private static final Due due = new Due();

    public static void main(String[] args) {
        pageKinds();
        pageTwenty();
        pageIsEmptyAndNowhere();
        threadNodes();
        threadTen();
        threadComesToTheEnd();
        accessWantsAThread();
        accessPages();
        accessCells();
        accessValues();
        accessSixty();
        accessToOneThatHasEnded();
        accessToOneThatIsDone();
        ruleRanges();
        ruleRefusedKeepsTheOldOne();
        pricesRanges();
        pricesRefusedKeepTheOldOnes();
        pricesAtFirst();
        placeWantsPageAndNode();
        placeFillsANode();
        placeWovenTakesAPlaceOnEach();
        placeOfOneThatLiesSomewhere();
        placeRefusesInOrder();
        settleWantsThreadAndNode();
        settleGoesToTheEnd();
        settleFromAFullQueue();
        settleUnderWay();
        settleOfOneThatHasEnded();
        swapWantsTwoThreads();
        swapOfPlaces();
        swapUnderWay();
        due.end();
    }

    private static void pageKinds() {
        due.by("5: a PAGE of a KIND (0 .. 3). -1");
        FarCells x = new FarCells(0, 0, 0);
        for (int wrong : Setup.outside(0, 3)) {
            due.is("kind " + wrong, x.page(wrong), -1);
        }
        due.is("none came", x.count(4), 0);
        for (int kind = 0; kind <= 3; kind++) {
            due.is("kind " + kind, x.page(kind), kind);
            due.is("look", x.look(kind, 0), kind);
        }
    }

    private static void pageTwenty() {
        due.by("5: -2: there are 20");
        FarCells x = new FarCells(0, 0, 0);
        for (int p = 0; p < 20; p++) {
            due.is("its number", x.page(0), p);
        }
        for (int kind = 0; kind <= 3; kind++) {
            due.is("the next one", x.page(kind), -2);
        }
        due.is("-1 goes before -2", x.page(4), -1);
        due.is("pages", x.count(4), 20);
        due.is("the last one is there", x.look(19, 0), 0);
    }

    private static void pageIsEmptyAndNowhere() {
        due.by("Terms: CELLS 0 .. 3 (ints, 0 at first); they lie nowhere till they are touched");
        FarCells x = new FarCells(0, 0, 0);
        for (int kind = 0; kind <= 3; kind++) {
            x.page(kind);
            due.is("nowhere", x.look(kind, 1), -2);
            for (int what = 2; what <= 6; what++) {
                due.is("look(" + what + ")", x.look(kind, what), 0);
            }
            for (int c = 0; c < 4; c++) {
                due.is("cell " + c, Due.cell(x, kind, c), "0");
            }
        }
        due.is("it takes no place", Setup.taken(x), "0 0");
        x.rule(0, 1, 1);
        x.run(5);
        due.is("ticks do not place it", x.look(0, 1), -2);
        due.is("what lies nowhere is not hidden", x.look(0, 3), 0);
    }

    private static void threadNodes() {
        due.by("6: a THREAD on a NODE. -1");
        for (int nodes = 0; nodes < 3; nodes++) {
            FarCells x = new FarCells(nodes, 0, 0);
            for (int wrong : Setup.outside(0, nodes + 1)) {
                due.is("node " + wrong, x.thread(wrong), -1);
            }
            due.is("none came", x.count(5), 0);
            due.is("the last node", x.thread(nodes + 1), 0);
        }
    }

    private static void threadTen() {
        due.by("6: -2: there are 10");
        FarCells x = new FarCells(0, 0, 0);
        for (int t = 0; t < 10; t++) {
            due.is("its number", x.thread(1), t);
        }
        due.is("the next one", x.thread(0), -2);
        due.is("-1 goes before -2", x.thread(2), -1);
        due.is("threads", x.count(5), 10);
        due.is("all in one queue", Setup.queue(x, 1), "0 1 2 3 4 5 6 7 8 9");
        due.is("the other one is empty", x.node(0, 3), 0);
    }

    private static void threadComesToTheEnd() {
        due.by("6: it comes to the end of the QUEUE");
        FarCells x = new FarCells(0, 0, 0);
        x.page(0);
        Setup.threads(x, 0, 2);
        x.settle(0, 0);
        x.thread(0);
        due.is("behind those that were there", Setup.queue(x, 0), "1 0 2");
        x.run(1);
        x.thread(0);
        due.is("in a run, too", Setup.queue(x, 0), "1 0 2 3");
    }

    private static void accessWantsAThread() {
        due.by("7: an ACCESS comes to a THREAD. -1");
        FarCells x = new FarCells(0, 0, 0);
        due.is("there is none", x.access(0, 0, 0, false, 0), -1);
        Setup.threads(x, 0, 2);
        for (int wrong : Setup.outside(0, 1)) {
            due.is("thread " + wrong, x.access(wrong, 0, 0, false, 0), -1);
        }
        due.is("the last one", x.access(1, 0, 0, false, 0), 1);
        due.is("each counts its own", x.access(0, 0, 0, true, 0), 1);
    }

    private static void accessPages() {
        due.by("7: page 0 .. 30. -1");
        FarCells x = new FarCells(0, 0, 0);
        x.thread(0);
        for (int wrong : Setup.outside(0, 30)) {
            due.is("page " + wrong, x.access(0, wrong, 0, true, 1), -1);
        }
        due.is("none came", x.about(0, 2), 0);
        due.is("0", x.access(0, 0, 0, true, 1), 1);
        due.is("30", x.access(0, 30, 0, true, 1), 2);
    }

    private static void accessCells() {
        due.by("7: cell 0 .. 7. -1");
        FarCells x = new FarCells(0, 0, 0);
        x.thread(0);
        for (int wrong : Setup.outside(0, 7)) {
            due.is("cell " + wrong, x.access(0, 0, wrong, true, 1), -1);
        }
        due.is("none came", x.about(0, 2), 0);
        due.is("0", x.access(0, 0, 0, true, 1), 1);
        due.is("7", x.access(0, 0, 7, true, 1), 2);
    }

    private static void accessValues() {
        due.by("7: write v");
        FarCells x = new FarCells(0, 0, 0);
        x.page(0);
        x.thread(0);
        int[] values = {LEAST, GREATEST, -1, 1};
        for (int c = 0; c < 4; c++) {
            x.access(0, 0, c, true, values[c]);
            x.access(0, 0, c, false, 99);
        }
        for (int c = 0; c < 4; c++) {
            x.run(2);
            due.is("cell", Due.cell(x, 0, c), "" + values[c]);
            due.is("read", Due.read(x, 0), "" + values[c]);
        }
    }

    private static void accessSixty() {
        due.by("7: -2: 60");
        FarCells x = new FarCells(0, 0, 0);
        x.page(0);
        Setup.threads(x, 0, 2);
        for (int i = 1; i <= 60; i++) {
            due.is("how many it was told", x.access(0, 0, 0, true, i), i);
        }
        due.is("one more", x.access(0, 0, 0, true, 61), -2);
        due.is("-1 goes before -2: page", x.access(0, 31, 0, true, 61), -1);
        due.is("-1 goes before -2: cell", x.access(0, 0, 8, true, 61), -1);
        due.is("the other one was told none", x.access(1, 0, 0, false, 0), 1);
        due.is("all of them go", x.run(61), 61);
        due.is("the last value", Due.cell(x, 0, 0), "60");
        due.is("those that went count, too", x.access(0, 0, 0, true, 61), -2);
    }

    private static void accessToOneThatHasEnded() {
        due.by("7: -1 (it has ENDED, too)");
        FarCells x = new FarCells(0, 0, 0);
        x.page(0);
        x.thread(0);
        for (int i = 0; i < 59; i++) {
            x.access(0, 1, 0, false, 0);
        }
        x.run(1);
        due.is("it has ended", x.access(0, 0, 0, false, 0), -1);
        due.is("none is left", x.about(0, 2), 0);
        FarCells y = new FarCells(0, 0, 0);
        y.thread(0);
        for (int i = 0; i < 60; i++) {
            y.access(0, 0, 0, false, 0);
        }
        due.is("60", y.access(0, 0, 0, false, 0), -2);
        y.run(1);
        due.is("ended, and 60: -1 goes before -2", y.access(0, 0, 0, false, 0), -1);
    }

    private static void accessToOneThatIsDone() {
        due.by("7: a THREAD with none left has not ENDED");
        FarCells x = new FarCells(0, 0, 0);
        x.page(0);
        Setup.reader(x, 0, 0);
        x.run(3);
        due.is("it is told more", x.access(0, 0, 0, true, 4), 2);
        due.is("and goes on", x.run(3), 1);
    }

    private static void ruleRanges() {
        due.by("8: PLACING 0 .. 2, EVERY 0 .. 50, GAIN 1 .. 10: 0. -1");
        FarCells x = new FarCells(0, 0, 0);
        for (int placing = 0; placing <= 2; placing++) {
            due.is("placing " + placing, x.rule(placing, 0, 1), 0);
        }
        due.is("every 50", x.rule(0, 50, 1), 0);
        due.is("gain 10", x.rule(0, 0, 10), 0);
        for (int wrong : Setup.outside(0, 2)) {
            due.is("placing " + wrong, x.rule(wrong, 0, 1), -1);
        }
        for (int wrong : Setup.outside(0, 50)) {
            due.is("every " + wrong, x.rule(0, wrong, 1), -1);
        }
        for (int wrong : Setup.outside(1, 10)) {
            due.is("gain " + wrong, x.rule(0, 0, wrong), -1);
        }
    }

    private static void ruleRefusedKeepsTheOldOne() {
        due.by("8: a refused call changes nothing");
        int[][] wrong = {{3, 0, 1}, {0, 51, 1}, {0, 0, 11}, {-1, 0, 1}, {0, -1, 1}, {0, 0, 0}};
        for (int[] w : wrong) {
            FarCells x = new FarCells(0, 0, 0);
            x.page(0);
            x.rule(2, 1, 4);
            x.rule(w[0], w[1], w[2]);
            Setup.reader(x, 1, 0, 0);
            x.run(6);
            due.is("emptiest", x.log(0, 6), 0);
            due.is("hidden behind each tick", x.log(1, 8), 1);
            due.is("2 times 4 is above 6", x.log(1, 9), 1);
        }
    }

    private static void pricesRanges() {
        due.by("9: FAULT PRICE 0 .. 20, MOVE PRICE 0 .. 50: 0. -1");
        int[] faults = {0, 20};
        int[] moves = {0, 50};
        for (int fault : faults) {
            for (int move : moves) {
                FarCells x = new FarCells(0, 0, 0);
                x.link(0, 1, 9, 1);
                due.is("prices", x.prices(fault, move), 0);
                x.rule(0, 1, 10);
                Setup.placed(x, 0, 0, 1);
                x.run(1);
                Setup.reader(x, 1, 0);
                x.run(1);
                due.is("both are paid", x.log(0, 7), 19 + fault + move);
            }
        }
        FarCells y = new FarCells(0, 0, 0);
        for (int wrong : Setup.outside(0, 20)) {
            due.is("fault price " + wrong, y.prices(wrong, 1), -1);
        }
        for (int wrong : Setup.outside(0, 50)) {
            due.is("move price " + wrong, y.prices(1, wrong), -1);
        }
    }

    private static void pricesRefusedKeepTheOldOnes() {
        due.by("9: a refused call changes nothing");
        int[][] wrong = {{-1, 50}, {21, 50}, {20, -1}, {20, 51}};
        for (int[] w : wrong) {
            FarCells x = new FarCells(0, 0, 0);
            x.prices(3, 1);
            x.prices(w[0], w[1]);
            x.rule(0, 1, 1);
            Setup.placed(x, 0, 0, 1);
            x.run(1);
            Setup.reader(x, 1, 0);
            x.run(1);
            due.is("5, 3 for the fault, 1 for the move", x.log(0, 7), 9);
        }
    }

    private static void pricesAtFirst() {
        due.by("Terms: FAULT PRICE (0 .. 20; 2), MOVE PRICE (0 .. 50; 6)");
        for (int gain = 3; gain <= 4; gain++) {
            FarCells x = new FarCells(0, 0, 0);
            x.rule(0, 1, gain);
            Setup.placed(x, 0, 0, 1);
            x.run(1);
            Setup.reader(x, 1, 0);
            x.run(1);
            due.is("2 times 3 is not above 6, 2 times 4 is", x.log(0, 7), gain == 3 ? 7 : 13);
        }
    }

    private static void placeWantsPageAndNode() {
        due.by("10: a PAGE is PLACED on a NODE. -1");
        FarCells x = new FarCells(1, 0, 0);
        due.is("there is none", x.place(0, 0), -1);
        Setup.pages(x, 0, 2);
        for (int wrong : Setup.outside(0, 1)) {
            due.is("page " + wrong, x.place(wrong, 0), -1);
        }
        for (int wrong : Setup.outside(0, 2)) {
            due.is("node " + wrong, x.place(0, wrong), -1);
        }
        due.is("nothing is placed", Setup.taken(x), "0 0 0");
        due.is("the last ones", x.place(1, 2), 0);
        due.is("there", x.look(1, 1), 2);
        due.is("the other page lies nowhere", x.look(0, 1), -2);
    }

    private static void placeFillsANode() {
        due.by("10: -2: there is no room");
        for (int kind : new int[] {0, 1, 3}) {
            FarCells x = new FarCells(0, 0, 0);
            Setup.pages(x, kind, 5);
            for (int p = 0; p < 4; p++) {
                due.is("there is room", x.place(p, 0), 0);
            }
            due.is("it is full", x.place(4, 0), -2);
            due.is("it lies nowhere", x.look(4, 1), -2);
            due.is("no place was taken", Setup.taken(x), "4 0");
            due.is("place does not look for another node, but may be told one", x.place(4, 1), 0);
        }
    }

    private static void placeWovenTakesAPlaceOnEach() {
        due.by("10: WOVEN ones: that is their BASE; -2: there is no room");
        FarCells x = new FarCells(1, 0, 0);
        Setup.pages(x, 2, 2);
        Setup.placed(x, 0, 2, 3);
        due.is("one place is left on node 2", x.place(0, 1), 0);
        due.is("its base", x.look(0, 1), 1);
        due.is("a place on each", Setup.taken(x), "1 1 4");
        for (int node = 0; node < 3; node++) {
            due.is("a node has no room, whatever the base", x.place(1, node), -2);
        }
        due.is("none was taken", Setup.taken(x), "1 1 4");
        due.is("nowhere", x.look(1, 1), -2);
    }

    private static void placeOfOneThatLiesSomewhere() {
        due.by("10: -3: it lies somewhere");
        for (int kind = 0; kind <= 3; kind++) {
            FarCells x = new FarCells(0, 0, 0);
            x.page(kind);
            x.place(0, 0);
            due.is("there already", x.place(0, 0), -3);
            due.is("elsewhere", x.place(0, 1), -3);
            due.is("it stays", x.look(0, 1), 0);
            due.is("no place more is taken", Setup.taken(x), kind == 2 ? "1 1" : "1 0");
        }
        FarCells y = new FarCells(0, 0, 0);
        y.page(0);
        Setup.reader(y, 1, 0);
        y.run(1);
        due.is("placed as it was touched", y.place(0, 0), -3);
    }

    private static void placeRefusesInOrder() {
        due.by("10: -1; -2; -3 (the first one)");
        FarCells x = new FarCells(0, 0, 0);
        Setup.placed(x, 0, 1, 3);
        Setup.placed(x, 2, 0, 1);
        due.is("full, and it lies somewhere", x.place(0, 1), -2);
        due.is("a woven one, too", x.place(3, 0), -2);
        due.is("the other node has room", x.place(0, 0), -3);
        due.is("no such page, and full", x.place(4, 1), -1);
    }

    private static void settleWantsThreadAndNode() {
        due.by("11: a THREAD goes to a NODE. -1");
        FarCells x = new FarCells(1, 0, 0);
        due.is("there is none", x.settle(0, 0), -1);
        Setup.threads(x, 0, 2);
        for (int wrong : Setup.outside(0, 1)) {
            due.is("thread " + wrong, x.settle(wrong, 0), -1);
        }
        for (int wrong : Setup.outside(0, 2)) {
            due.is("node " + wrong, x.settle(0, wrong), -1);
        }
        due.is("none went", Setup.queue(x, 0), "0 1");
        due.is("the last ones", x.settle(1, 2), 0);
        due.is("where it was", x.settle(1, 1), 2);
    }

    private static void settleGoesToTheEnd() {
        due.by("11: to the end of its QUEUE");
        FarCells x = new FarCells(0, 0, 0);
        Setup.threads(x, 0, 3);
        Setup.threads(x, 1, 2);
        due.is("the first one of its own", x.settle(0, 0), 0);
        due.is("the others move up", Setup.queue(x, 0), "1 2 0");
        x.settle(0, 0);
        due.is("the last one stays the last", Setup.queue(x, 0), "1 2 0");
        x.settle(2, 1);
        due.is("from the middle", Setup.queue(x, 0), "1 0");
        due.is("to the end of another one", Setup.queue(x, 1), "3 4 2");
        x.settle(1, 1);
        x.settle(0, 1);
        due.is("an empty one is left", x.node(0, 3), 0);
        due.is("all", Setup.queue(x, 1), "3 4 2 1 0");
        x.settle(4, 0);
        due.is("into an empty one", x.about(4, 7), 0);
    }

    private static void settleFromAFullQueue() {
        due.by("11: to the end of its QUEUE (of all 10 THREADS)");
        FarCells x = new FarCells(2, 0, 0);
        Setup.threads(x, 3, 10);
        x.settle(0, 3);
        due.is("all on the last node", Setup.queue(x, 3), "1 2 3 4 5 6 7 8 9 0");
        x.settle(9, 2);
        due.is("nine", Setup.queue(x, 3), "1 2 3 4 5 6 7 8 0");
        x.settle(9, 3);
        due.is("ten again", Setup.queue(x, 3), "1 2 3 4 5 6 7 8 0 9");
        x.page(0);
        Setup.reads(x, 9, 0, 1);
        x.run(1);
        due.is("the last one goes, and stays the last", x.about(9, 1) * 10 + x.about(9, 7), 19);
    }

    private static void settleUnderWay() {
        due.by("11: -3: it has one");
        FarCells x = new FarCells(0, 0, 0);
        Setup.placed(x, 0, 1, 1);
        Setup.reader(x, 0, 0, 0);
        due.is("told, but not under way", x.settle(0, 0), 0);
        x.run(4);
        due.is("a tick to go", x.about(0, 3), 1);
        due.is("elsewhere", x.settle(0, 1), -3);
        due.is("to where it is", x.settle(0, 0), -3);
        due.is("-1 goes before -3", x.settle(0, 2), -1);
        due.is("it stays", x.about(0, 0), 0);
        x.run(1);
        due.is("done", x.settle(0, 1), 0);
        x.run(1);
        due.is("one of cost 1 is done with its tick", x.settle(0, 0), 1);
    }

    private static void settleOfOneThatHasEnded() {
        due.by("11: a THREAD that has no ACCESS under way");
        FarCells x = new FarCells(0, 0, 0);
        Setup.reader(x, 0, 0);
        x.run(1);
        due.is("it has ended", x.about(0, 5), 1);
        due.is("it goes all the same", x.settle(0, 1), 0);
        due.is("there", x.node(1, 3), 1);
    }

    private static void swapWantsTwoThreads() {
        due.by("12: two THREADS. -1 (one THREAD, too)");
        FarCells x = new FarCells(0, 0, 0);
        due.is("there are none", x.swap(0, 1), -1);
        Setup.threads(x, 0, 3);
        for (int wrong : Setup.outside(0, 2)) {
            due.is("swap(" + wrong + ", 0)", x.swap(wrong, 0), -1);
            due.is("swap(0, " + wrong + ")", x.swap(0, wrong), -1);
            due.is("one that is none", x.swap(wrong, wrong), -1);
        }
        for (int t = 0; t < 3; t++) {
            due.is("one thread", x.swap(t, t), -1);
        }
        due.is("none went", Setup.queue(x, 0), "0 1 2");
        due.is("the first and the last", x.swap(2, 0), 0);
        due.is("changed", Setup.queue(x, 0), "2 1 0");
    }

    private static void swapOfPlaces() {
        due.by("12: change their NODES and places in the QUEUES");
        FarCells x = new FarCells(0, 0, 0);
        Setup.threads(x, 0, 3);
        Setup.threads(x, 1, 2);
        due.is("the first one and the last one", x.swap(0, 4), 0);
        due.is("queue of 0", Setup.queue(x, 0), "4 1 2");
        due.is("queue of 1", Setup.queue(x, 1), "3 0");
        due.is("nodes", x.about(0, 0) * 10 + x.about(4, 0), 10);
        due.is("neighbours", x.swap(1, 2), 0);
        due.is("queue of 0", Setup.queue(x, 0), "4 2 1");
        due.is("back", x.swap(0, 4), 0);
        due.is("queue of 0", Setup.queue(x, 0), "0 2 1");
    }

    private static void swapUnderWay() {
        due.by("12: -3: one has an ACCESS under way");
        FarCells x = new FarCells(0, 0, 0);
        Setup.placed(x, 0, 1, 1);
        Setup.reader(x, 0, 0);
        Setup.threads(x, 1, 2);
        x.run(4);
        due.is("the first one has", x.swap(0, 1), -3);
        due.is("the second one has", x.swap(1, 0), -3);
        due.is("-1 goes before -3: one thread", x.swap(0, 0), -1);
        due.is("-1 goes before -3: no such thread", x.swap(0, 3), -1);
        due.is("none went", Setup.queue(x, 0) + "|" + Setup.queue(x, 1), "0|1 2");
        due.is("two others may", x.swap(1, 2), 0);
        x.run(1);
        due.is("it is done", x.swap(0, 1), 0);
        due.is("changed", Setup.queue(x, 0) + "|" + Setup.queue(x, 1), "1|2 0");
    }
}
