/** Promises 14 to 19, 21 and 26 at their edges: one method for each sentence that names one. */
public final class EdgeAskTest {
    private static final Due due = new Due();

    public static void main(String[] args) {
        lookRanges();
        lookNowhere();
        lookCopiesAsBits();
        lookHiddenFaultsMovesBill();
        faultRanges();
        faultLatestFirst();
        cellRanges();
        aboutRanges();
        aboutLeftWithoutTheOneUnderWay();
        aboutNoneUnderWay();
        aboutEndedByAFailureAlone();
        aboutPlaceFromZero();
        readNone();
        readLastOnly();
        readWantsAThread();
        nodeRanges();
        nodeFullOfPages();
        nodeWithoutFreeProcessors();
        nodeBillsOfItsThreads();
        logRanges();
        logOfEachKind();
        logHasThreeHundred();
        countRanges();
        countOfAll();
        theLastPromisedCall();
        due.end();
    }

    private static void lookRanges() {
        due.by("14: look(page, what) 0 .. 6. -1");
        FarCells x = new FarCells(0, 0, 0);
        due.is("there is none", x.look(0, 0), -1);
        Setup.pages(x, 3, 2);
        for (int what = 0; what <= 6; what++) {
            for (int wrong : Setup.outside(0, 1)) {
                due.is("page " + wrong, x.look(wrong, what), -1);
            }
        }
        for (int wrong : Setup.outside(0, 6)) {
            due.is("what " + wrong, x.look(1, wrong), -1);
        }
        due.is("the last page", x.look(1, 0), 3);
        due.is("the last question", x.look(1, 6), 0);
    }

    private static void lookNowhere() {
        due.by("14: 1 its NODE (WOVEN: BASE; -2: nowhere)");
        FarCells x = new FarCells(1, 0, 0);
        for (int kind = 0; kind <= 3; kind++) {
            x.page(kind);
            due.is("nowhere", x.look(kind, 1), -2);
            x.place(kind, kind % 3);
            due.is("there", x.look(kind, 1), kind % 3);
        }
    }

    private static void lookCopiesAsBits() {
        due.by("14: 2 the NODES of its COPIES as bits");
        FarCells x = new FarCells(2, 0, 0);
        Setup.placed(x, 1, 1, 1);
        int[] bits = {1, 1, 5, 13};
        for (int node = 0; node < 4; node++) {
            Setup.reader(x, node, 0);
            x.run(10);
            due.is("behind a reader on node " + node, x.look(0, 2), bits[node]);
        }
    }

    private static void lookHiddenFaultsMovesBill() {
        due.by("14: 3 whether it is HIDDEN, 4 how many FAULTS are kept, 5 how often it MOVED, 6 its BILL");
        FarCells x = new FarCells(0, 0, 0);
        x.rule(0, 1, 10);
        x.prices(1, 0);
        Setup.placed(x, 0, 0, 1);
        x.thread(1);
        x.run(1);
        for (int i = 1; i <= 6; i++) {
            Setup.reads(x, 0, 0, 1);
            x.rule(0, 0, 10);
            x.run(10);
            due.is("hidden no more", x.look(0, 3), 0);
            due.is("kept", x.look(0, 4), Math.min(i, 4));
            due.is("it moved once", x.look(0, 5), 1);
            due.is("bill", x.look(0, 6), 6 + 2 * (i - 1));
            x.rule(0, 1, 10);
            x.run(1);
            due.is("hidden", x.look(0, 3), 1);
        }
    }

    private static void faultRanges() {
        due.by("15: FAULT i of those that are kept. -1");
        FarCells x = new FarCells(0, 0, 0);
        due.is("no page", x.fault(0, 0), -1);
        x.rule(0, 1, 1);
        Setup.placed(x, 3, 0, 2);
        due.is("none is kept", x.fault(0, 0), -1);
        x.thread(1);
        x.run(1);
        Setup.reads(x, 0, 0, 1);
        x.run(10);
        due.is("one is kept", x.fault(0, 0), 1);
        for (int wrong : Setup.outside(0, 0)) {
            due.is("fault " + wrong + " of one", x.fault(0, wrong), -1);
        }
        Setup.reads(x, 0, 0, 4);
        x.run(40);
        for (int i = 0; i < 4; i++) {
            due.is("four are kept", x.fault(0, i), 1);
        }
        for (int wrong : Setup.outside(0, 3)) {
            due.is("fault " + wrong + " of four", x.fault(0, wrong), -1);
        }
        for (int wrong : Setup.outside(0, 1)) {
            due.is("page " + wrong, x.fault(wrong, 0), -1);
        }
        due.is("the other page has none", x.fault(1, 0), -1);
    }

    private static void faultLatestFirst() {
        due.by("15: the latest one first: the NODE");
        FarCells x = new FarCells(2, 0, 0);
        x.rule(0, 1, 1);
        Setup.placed(x, 3, 0, 1);
        x.thread(0);
        x.run(1);
        for (int node = 0; node < 4; node++) {
            x.settle(0, node);
            Setup.reads(x, 0, 0, 1);
            x.run(10);
        }
        due.is("faults", Setup.faults(x, 0), "3 2 1 0");
    }

    private static void cellRanges() {
        due.by("16: IllegalArgumentException: there is none such");
        String refused = "IllegalArgumentException";
        FarCells x = new FarCells(0, 0, 0);
        due.is("no page", Due.cell(x, 0, 0), refused);
        Setup.pages(x, 2, 2);
        for (int wrong : Setup.outside(0, 1)) {
            due.is("page " + wrong, Due.cell(x, wrong, 0), refused);
        }
        for (int wrong : Setup.outside(0, 3)) {
            due.is("cell " + wrong, Due.cell(x, 1, wrong), refused);
        }
        due.is("the first one", Due.cell(x, 0, 0), "0");
        due.is("the last one", Due.cell(x, 1, 3), "0");
        Setup.pages(x, 2, 18);
        due.is("of page 19", Due.cell(x, 19, 3), "0");
        due.is("of page 20", Due.cell(x, 20, 0), refused);
    }

    private static void aboutRanges() {
        due.by("17: about(thread, what) 0 .. 7. -1");
        FarCells x = new FarCells(0, 0, 0);
        due.is("there is none", x.about(0, 0), -1);
        Setup.threads(x, 1, 2);
        for (int what = 0; what <= 7; what++) {
            for (int wrong : Setup.outside(0, 1)) {
                due.is("thread " + wrong, x.about(wrong, what), -1);
            }
        }
        for (int wrong : Setup.outside(0, 7)) {
            due.is("what " + wrong, x.about(1, wrong), -1);
        }
        int[] atFirst = {1, 0, 0, 0, 0, 0, 0, 1};
        for (int what = 0; what <= 7; what++) {
            due.is("of the last one, " + what, x.about(1, what), atFirst[what]);
        }
    }

    private static void aboutLeftWithoutTheOneUnderWay() {
        due.by("17: 1 ACCESSES that went, 2 that are left (the one under way left out)");
        FarCells x = new FarCells(0, 0, 0);
        Setup.placed(x, 0, 1, 1);
        Setup.reader(x, 0, 0, 0);
        due.is("before", x.about(0, 1) * 10 + x.about(0, 2), 2);
        x.run(1);
        due.is("the first one is under way", x.about(0, 1) * 10 + x.about(0, 2), 11);
        x.run(4);
        due.is("it is done", x.about(0, 1) * 10 + x.about(0, 2), 11);
        x.run(1);
        due.is("the last one is under way", x.about(0, 1) * 10 + x.about(0, 2), 20);
    }

    private static void aboutNoneUnderWay() {
        due.by("17: 3 how many ticks the one under way has to go (0: none is)");
        FarCells x = new FarCells(0, 0, 0);
        Setup.placed(x, 0, 1, 1);
        Setup.reader(x, 0, 0);
        due.is("not yet", x.about(0, 3), 0);
        x.run(1);
        due.is("of cost 5", x.about(0, 3), 4);
        x.run(3);
        due.is("the last tick", x.about(0, 3), 1);
        x.run(1);
        due.is("done", x.about(0, 3), 0);
    }

    private static void aboutEndedByAFailureAlone() {
        due.by("17: 5 whether it has ENDED by one that FAILED");
        FarCells x = new FarCells(0, 1, 0);
        x.page(0);
        Setup.reader(x, 0, 0);
        Setup.reader(x, 0, 0, 1);
        Setup.threads(x, 0, 1);
        x.run(9);
        due.is("all of its accesses went", x.about(0, 5), 0);
        due.is("one failed", x.about(1, 5), 1);
        due.is("it was told none", x.about(2, 5), 0);
    }

    private static void aboutPlaceFromZero() {
        due.by("17: 7 its place in the QUEUE, from 0");
        FarCells x = new FarCells(0, 0, 0);
        for (int t = 0; t < 10; t++) {
            x.thread(0);
            due.is("place", x.about(t, 7), t);
        }
        x.settle(0, 0);
        due.is("the first one", x.about(1, 7), 0);
        due.is("the last one", x.about(0, 7), 9);
        x.settle(0, 1);
        due.is("alone", x.about(0, 7), 0);
    }

    private static void readNone() {
        due.by("18: the value that a THREAD read last (0: none)");
        FarCells x = new FarCells(0, 0, 0);
        x.page(0);
        x.thread(0);
        due.is("none was told", Due.read(x, 0), "0");
        x.access(0, 0, 0, true, 5);
        x.run(1);
        due.is("a write is none", Due.read(x, 0), "0");
        Setup.reads(x, 0, 0, 1);
        due.is("told, but it went not yet", Due.read(x, 0), "0");
        x.run(1);
        due.is("read", Due.read(x, 0), "5");
    }

    private static void readLastOnly() {
        due.by("18: read last");
        FarCells x = new FarCells(0, 0, 0);
        x.page(0);
        x.thread(0);
        x.access(0, 0, 1, true, Setup.LEAST);
        x.access(0, 0, 1, false, 7);
        x.access(0, 0, 1, true, 6);
        x.access(0, 0, 2, false, 7);
        x.access(0, 1, 0, false, 7);
        x.run(2);
        due.is("what the cell had", Due.read(x, 0), "" + Setup.LEAST);
        x.run(1);
        due.is("a write does not change it", Due.read(x, 0), "" + Setup.LEAST);
        x.run(1);
        due.is("another cell", Due.read(x, 0), "0");
        x.access(0, 0, 1, false, 0);
        x.run(1);
        due.is("one that fails reads nothing", Due.read(x, 0), "0");
    }

    private static void readWantsAThread() {
        due.by("18: IllegalArgumentException: there is none such");
        FarCells x = new FarCells(0, 0, 0);
        due.is("there is none", Due.read(x, 0), "IllegalArgumentException");
        Setup.threads(x, 0, 10);
        for (int wrong : Setup.outside(0, 9)) {
            due.is("thread " + wrong, Due.read(x, wrong), "IllegalArgumentException");
        }
        due.is("the last one", Due.read(x, 9), "0");
    }

    private static void nodeRanges() {
        due.by("19: node(node, what) 0 .. 3. -1");
        for (int nodes = 0; nodes < 3; nodes++) {
            FarCells x = new FarCells(nodes, 0, 0);
            for (int what = 0; what <= 3; what++) {
                for (int wrong : Setup.outside(0, nodes + 1)) {
                    due.is("node " + wrong, x.node(wrong, what), -1);
                }
                due.is("the last one", x.node(nodes + 1, what), what == 2 ? 1 : 0);
            }
            for (int wrong : Setup.outside(0, 3)) {
                due.is("what " + wrong, x.node(0, wrong), -1);
            }
        }
    }

    private static void nodeFullOfPages() {
        due.by("19: 0 places taken");
        FarCells x = new FarCells(0, 0, 8);
        Setup.placed(x, 0, 0, 9);
        Setup.placed(x, 1, 1, 1);
        Setup.placed(x, 2, 1, 2);
        due.is("plain, and woven", x.node(0, 0), 11);
        Setup.reader(x, 0, 9);
        x.run(10);
        due.is("a copy, too: full", x.node(0, 0), 12);
        due.is("the other one", x.node(1, 0), 3);
        x.page(0);
        due.is("no room", x.place(12, 0), -2);
    }

    private static void nodeWithoutFreeProcessors() {
        due.by("19: 2 PROCESSORS that are free");
        FarCells x = new FarCells(0, 2, 0);
        x.link(0, 1, 2, 4);
        Setup.placed(x, 0, 1, 1);
        for (int busy = 1; busy <= 3; busy++) {
            Setup.reader(x, 0, 0);
            x.run(1);
            due.is("free", x.node(0, 2), 3 - busy);
        }
        Setup.reader(x, 0, 0);
        due.is("none is free", x.run(1), 0);
        due.is("free", x.node(0, 2), 0);
        due.is("of the node where the page lies", x.node(1, 2), 3);
    }

    private static void nodeBillsOfItsThreads() {
        due.by("19: 1 its BILL (of THREADS on it), 3 THREADS there");
        FarCells x = new FarCells(0, 0, 0);
        Setup.placed(x, 0, 1, 1);
        Setup.reader(x, 0, 0);
        x.run(5);
        due.is("the node of the thread, not of the page", x.node(0, 1) * 10 + x.node(1, 1), 50);
        x.settle(0, 1);
        due.is("threads", x.node(0, 3) * 10 + x.node(1, 3), 1);
        due.is("what went before stays", x.node(0, 1) * 10 + x.node(1, 1), 50);
        Setup.reads(x, 0, 0, 1);
        x.run(1);
        due.is("then the other node's", x.node(0, 1) * 10 + x.node(1, 1), 51);
    }

    private static void logRanges() {
        due.by("21: of ACCESS i of THE LOG: 0 .. 9. -1");
        FarCells x = new FarCells(0, 0, 0);
        for (int what = 0; what <= 9; what++) {
            due.is("it is empty", x.log(0, what), -1);
        }
        x.page(0);
        Setup.reader(x, 0, 0, 0, 1);
        x.run(3);
        for (int what = 0; what <= 9; what++) {
            for (int wrong : Setup.outside(0, 1)) {
                due.is("access " + wrong, x.log(wrong, what), -1);
            }
        }
        for (int wrong : Setup.outside(0, 9)) {
            due.is("what " + wrong, x.log(1, wrong), -1);
        }
        due.is("the last one", x.log(1, 0), 2);
        due.is("the last question", x.log(1, 9), 0);
    }

    private static void logOfEachKind() {
        due.by("21: 0 tick, 1 THREAD, 2 NODE of that, 3 PAGE, 4 CELL, 5 wrote, 6 WHERE, 7 COST, 8 FAULT, 9 MOVED");
        FarCells x = new FarCells(1, 0, 0);
        x.rule(0, 4, 10);
        Setup.placed(x, 0, 0, 3);
        Setup.threads(x, 0, 4);
        x.settle(3, 2);
        x.run(4);
        x.access(3, 2, 1, true, 9);
        x.access(3, 2, 3, false, 0);
        x.run(20);
        int[] first = {5, 3, 2, 2, 1, 1, 0, 13, 1, 1};
        int[] second = {18, 3, 2, 2, 3, 0, 2, 3, 1, 0};
        for (int what = 0; what <= 9; what++) {
            due.is("log(0, " + what + ")", x.log(0, what), first[what]);
            due.is("log(1, " + what + ")", x.log(1, what), second[what]);
        }
        x.settle(3, 1);
        due.is("the node of then", x.log(0, 2), 2);
    }

    private static void logHasThreeHundred() {
        due.by("Terms: THE LOG has the first 300 that went");
        FarCells x = new FarCells(0, 2, 0);
        Setup.pages(x, 0, 2);
        Setup.threads(x, 0, 6);
        for (int i = 0; i < 60; i++) {
            for (int t = 0; t < 6; t++) {
                x.access(t, 0, 0, true, i);
            }
        }
        due.is("three in each tick", x.run(99), 297);
        due.is("297", x.log(296, 0), 99);
        due.is("not yet", x.log(297, 0), -1);
        due.is("three more", x.run(1), 3);
        due.is("the last one", x.log(299, 0), 100);
        due.is("no more", x.log(300, 0), -1);
        due.is("three more go", x.run(1), 3);
        due.is("the log is full", x.log(300, 0), -1);
        due.is("the last one stays", x.log(299, 0), 100);
        due.is("the first one stays", x.log(0, 0), 1);
        due.is("all are counted", x.count(6), 303);
        due.is("and billed", x.look(0, 6) * 1000 + x.node(0, 1), 303303);
    }

    private static void countRanges() {
        due.by("26: count(what) 0 .. 10; -1 for others");
        FarCells x = new FarCells(0, 0, 0);
        for (int wrong : Setup.outside(0, 10)) {
            due.is("what " + wrong, x.count(wrong), -1);
        }
        due.is("the last one", x.count(10), 0);
    }

    private static void countOfAll() {
        due.by("26: 0 the tick that is open .. 10 ACCESSES that FAILED");
        FarCells x = new FarCells(1, 1, 2);
        x.rule(0, 1, 10);
        Setup.placed(x, 0, 0, 1);
        Setup.pages(x, 0, 3);
        x.run(1);
        Setup.reader(x, 1, 0, 0);
        Setup.reader(x, 1, 7);
        Setup.reader(x, 2, 8);
        x.run(20);
        int[] wanted = {22, 3, 2, 6, 4, 3, 2, 5 + 2 + 6 + 1 + 2, 2, 1, 2};
        for (int what = 0; what <= 10; what++) {
            due.is("count(" + what + ")", x.count(what), wanted[what]);
        }
    }

    private static void theLastPromisedCall() {
        due.by("What it is: an object is used for at most 512 calls");
        FarCells x = new FarCells(0, 0, 0);
        x.page(0);
        x.thread(0);
        x.access(0, 0, 0, false, 0);
        for (int i = 4; i < 511; i++) {
            x.run(200);
        }
        x.place(0, 0);
        due.is("call 512", x.count(0), 1 + 507 * 200);
    }
}
