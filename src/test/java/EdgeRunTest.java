/** Promise 13 and what the terms say of a run, at the edges: one method for each sentence that names one. */
public final class EdgeRunTest {
    private static final Due due = new Due();

    public static void main(String[] args) {
        runTicks();
        runAnswersWhatWentInIt();
        runWithoutThreads();
        readyThreadsAlone();
        busyProcessorsTryNone();
        triedOnceInATick();
        nodeByNode();
        costOneIsDoneWithItsTick();
        underWayForItsCost();
        doneByNumbers();
        failsWithoutThePage();
        failsWithoutTheCell();
        failsBeforeItIsPlaced();
        failedTakesNoProcessor();
        failedHasNoneLeft();
        failsWithoutAWay();
        wovenCellsGoRound();
        waitsAtAFullLink();
        waitsAtTheFirstFullLink();
        waitsAndStaysReady();
        waitingMakesNoFault();
        placedStaysWhileItWaits();
        bothWaysShareALink();
        due.end();
    }

    private static void runTicks() {
        due.by("13: n ticks (1 .. 200). -1");
        FarCells x = new FarCells(0, 0, 0);
        for (int wrong : Setup.outside(1, 200)) {
            due.is("run(" + wrong + ")", x.run(wrong), -1);
            due.is("no tick is closed", x.count(0), 1);
        }
        due.is("run(1)", x.run(1), 0);
        due.is("one is closed", x.count(0), 2);
        due.is("run(200)", x.run(200), 0);
        due.is("200 more are", x.count(0), 202);
    }

    private static void runAnswersWhatWentInIt() {
        due.by("13: how many ACCESSES went");
        FarCells x = new FarCells(0, 0, 0);
        Setup.placed(x, 0, 1, 1);
        Setup.reader(x, 0, 0, 0, 9);
        due.is("it goes in its first tick", x.run(1), 1);
        due.is("what is under way went before", x.run(4), 0);
        due.is("the next one", x.run(5), 1);
        due.is("one that fails does not go", x.run(5), 0);
    }

    private static void runWithoutThreads() {
        due.by("13: nothing is READY");
        FarCells x = new FarCells(2, 2, 8);
        due.is("an empty machine", x.run(200), 0);
        x.page(0);
        Setup.threads(x, 3, 2);
        due.is("threads that were told nothing", x.run(200), 0);
        due.is("nothing is free less", x.node(3, 2), 3);
    }

    private static void readyThreadsAlone() {
        due.by("Terms: READY, if it has ACCESSES left, none under way, and hasn't ENDED");
        FarCells x = new FarCells(0, 2, 0);
        Setup.placed(x, 0, 1, 1);
        Setup.reader(x, 0, 0, 0);
        Setup.reader(x, 0, 9, 0);
        Setup.threads(x, 0, 1);
        due.is("the first one", x.run(1), 1);
        due.is("it is under way, though processors are free", x.run(4), 0);
        due.is("then it is ready again", x.run(1), 1);
        due.is("the one that has ended never is", x.run(20), 0);
        due.is("went", x.about(0, 1) * 100 + x.about(1, 1) * 10 + x.about(2, 1), 200);
    }

    private static void busyProcessorsTryNone() {
        due.by("Terms: as long as a PROCESSOR of it is free (one less for each ACCESS under way of its THREADS)");
        FarCells x = new FarCells(0, 0, 0);
        Setup.placed(x, 0, 1, 1);
        Setup.reader(x, 0, 0);
        Setup.reader(x, 0, 9);
        Setup.reader(x, 1, 0);
        due.is("one on each node", x.run(1), 2);
        due.is("none is free", x.node(0, 2), 0);
        x.run(4);
        due.is("the second one was not tried", x.about(1, 5), 0);
        due.is("one is free", x.node(0, 2), 1);
        x.run(1);
        due.is("now it was", x.about(1, 5), 1);
    }

    private static void triedOnceInATick() {
        due.by("Terms: the first READY THREAD of its QUEUE that wasn't tried in this tick");
        FarCells x = new FarCells(0, 2, 0);
        x.link(0, 1, 1, 1);
        Setup.placed(x, 0, 1, 1);
        Setup.reader(x, 0, 0);
        Setup.reader(x, 0, 0);
        x.run(1);
        due.is("one wait in one tick, though two processors are free", x.about(1, 4), 1);
        due.is("free", x.node(0, 2), 2);
        due.is("wait of the link", x.linked(0, 1, 3), 1);
    }

    private static void nodeByNode() {
        due.by("Terms: in a tick, NODE by NODE");
        FarCells x = new FarCells(2, 0, 0);
        x.page(0);
        for (int node = 3; node >= 0; node--) {
            Setup.reader(x, node, 0);
        }
        due.is("all go", x.run(1), 4);
        for (int i = 0; i < 4; i++) {
            due.is("node of access " + i, x.log(i, 2), i);
        }
        due.is("the first one placed it", x.look(0, 1), 0);
    }

    private static void costOneIsDoneWithItsTick() {
        due.by("Terms: under way for as many ticks as its COST, this one with it");
        FarCells x = new FarCells(0, 0, 0);
        x.page(0);
        x.thread(0);
        Setup.reads(x, 0, 0, 60);
        x.run(1);
        due.is("nothing to go", x.about(0, 3), 0);
        due.is("free again", x.node(0, 2), 1);
        due.is("one in each tick", x.run(59), 59);
        due.is("none left", x.run(1), 0);
    }

    private static void underWayForItsCost() {
        due.by("Terms: all ACCESSES under way have a tick less to go; those with none left are done");
        FarCells x = new FarCells(0, 0, 0);
        Setup.placed(x, 0, 1, 1);
        Setup.reader(x, 0, 0, 0);
        for (int toGo = 4; toGo >= 0; toGo--) {
            x.run(1);
            due.is("to go", x.about(0, 3), toGo);
            due.is("free", x.node(0, 2), toGo == 0 ? 1 : 0);
        }
        x.run(1);
        due.is("the next one begins in tick 6", x.log(1, 0), 6);
    }

    private static void doneByNumbers() {
        due.by("Terms: their THREADS, by numbers, go to the end of the QUEUES");
        FarCells x = new FarCells(0, 2, 0);
        x.page(0);
        for (int t = 0; t < 4; t++) {
            Setup.reader(x, 0, 0);
        }
        x.swap(0, 2);
        due.is("queue", Setup.queue(x, 0), "2 1 0 3");
        x.run(1);
        due.is("they go by the queue", x.log(0, 1) * 100 + x.log(1, 1) * 10 + x.log(2, 1), 210);
        due.is("those that are done stand behind, by numbers", Setup.queue(x, 0), "3 0 1 2");

        FarCells y = new FarCells(0, 1, 0);
        Setup.placed(y, 0, 1, 1);
        y.page(0);
        Setup.reader(y, 0, 0);
        Setup.reader(y, 0, 1, 1, 1, 1, 1);
        y.run(4);
        due.is("one under way keeps its place", Setup.queue(y, 0), "0 1");
        y.run(1);
        due.is("both are done in one tick", Setup.queue(y, 0), "0 1");
        y.access(0, 0, 0, false, 0);
        y.access(1, 1, 0, false, 0);
        y.settle(0, 0);
        y.run(1);
        due.is("one is done, one under way", Setup.queue(y, 0), "0 1");
    }

    private static void failsWithoutThePage() {
        due.by("Terms: it FAILS, if there is no such PAGE");
        FarCells x = new FarCells(0, 2, 0);
        Setup.pages(x, 0, 2);
        Setup.reader(x, 0, 1);
        Setup.reader(x, 0, 2);
        Setup.reader(x, 0, 30);
        due.is("the last page is there", x.run(1), 1);
        due.is("the next one is not", x.about(1, 5), 1);
        due.is("nor is the last that can be told", x.about(2, 5), 1);
        due.is("not this", x.about(0, 5), 0);
        due.is("failed", x.count(10), 2);

        FarCells y = new FarCells(0, 1, 0);
        Setup.pages(y, 0, 20);
        Setup.reader(y, 0, 19);
        Setup.reader(y, 0, 20);
        due.is("page 19 of 20", y.run(1), 1);
        due.is("page 20", y.about(1, 5), 1);
    }

    private static void failsWithoutTheCell() {
        due.by("Terms: it FAILS, if there is no such CELL");
        for (int cell = 0; cell <= 7; cell++) {
            FarCells x = new FarCells(0, 0, 0);
            x.page(0);
            x.thread(0);
            x.access(0, 0, cell, true, 3);
            due.is("cell " + cell, x.run(1), cell < 4 ? 1 : 0);
            due.is("failed", x.count(10), cell < 4 ? 0 : 1);
            due.is("ended", x.about(0, 5), cell < 4 ? 0 : 1);
        }
    }

    private static void failsBeforeItIsPlaced() {
        due.by("Terms: it FAILS, if there is no such CELL; then: if the PAGE lies nowhere it is PLACED");
        FarCells x = new FarCells(1, 0, 0);
        Setup.pages(x, 0, 2);
        x.rule(1, 0, 1);
        x.thread(2);
        x.access(0, 0, 4, false, 0);
        x.run(1);
        due.is("it lies nowhere", x.look(0, 1), -2);
        due.is("no place is taken", Setup.taken(x), "0 0 0");
        Setup.reader(x, 2, 1);
        x.run(1);
        due.is("no turn was taken", x.look(1, 1), 0);
    }

    private static void failedTakesNoProcessor() {
        due.by("Terms: TO TRY (one that FAILS is not under way)");
        FarCells x = new FarCells(0, 0, 0);
        x.page(0);
        for (int t = 0; t < 9; t++) {
            Setup.reader(x, 0, 1);
        }
        Setup.reader(x, 0, 0);
        due.is("nine fail, the tenth goes", x.run(1), 1);
        due.is("failed", x.count(10), 9);
        due.is("they keep their places", Setup.queue(x, 0), "0 1 2 3 4 5 6 7 8 9");
    }

    private static void failedHasNoneLeft() {
        due.by("Terms: FAILS (the THREAD has ENDED, and has none left)");
        FarCells x = new FarCells(0, 0, 0);
        x.page(0);
        Setup.reader(x, 0, 0, 1, 0, 1);
        x.run(1);
        due.is("left", x.about(0, 2), 3);
        due.is("not yet", x.about(0, 5), 0);
        due.is("it fails", x.run(1), 0);
        due.is("left", x.about(0, 2), 0);
        due.is("ended", x.about(0, 5), 1);
        x.page(0);
        due.is("nothing goes any more", x.run(10), 0);
        due.is("one access failed", x.count(10), 1);
        due.is("one went", x.about(0, 1), 1);
        due.is("its bill", x.about(0, 6), 1);
    }

    private static void failsWithoutAWay() {
        due.by("Terms: if there is no WAY from a to WHERE it FAILS");
        for (int kind = 0; kind <= 3; kind++) {
            FarCells x = new FarCells(0, 0, 0);
            x.link(0, 1, 0, 1);
            Setup.placed(x, kind, 1, 1);
            Setup.reader(x, 1, 0);
            Setup.reader(x, 0, 0);
            due.is("where the page lies it needs none", x.run(1), 1);
            due.is("from the other node it fails", x.about(1, 5), 1);
            due.is("no copy came", x.look(0, 2), 0);
            due.is("no link has a wait", x.linked(0, 1, 3), 0);
        }
        FarCells y = new FarCells(0, 0, 0);
        y.link(0, 1, 0, 1);
        Setup.placed(y, 2, 1, 1);
        y.thread(0);
        y.access(0, 0, 1, true, 6);
        y.access(0, 0, 3, true, 7);
        y.access(0, 0, 2, true, 8);
        due.is("woven cells 1 and 3 lie on node 0, cell 2 does not", y.run(3), 2);
        due.is("failed", y.count(10), 1);
    }

    private static void wovenCellsGoRound() {
        due.by("Terms: CELL i lies on NODE (i and its BASE) modulo n");
        int[][] where = {{1, 0, 1, 0}, {2, 0, 1, 2}, {3, 0, 1, 2}};
        for (int nodes = 0; nodes < 3; nodes++) {
            FarCells x = new FarCells(nodes, 0, 0);
            Setup.placed(x, 2, nodes + 1, 1);
            x.thread(0);
            for (int c = 0; c < 4; c++) {
                x.access(0, 0, c, false, 0);
            }
            x.run(40);
            for (int c = 0; c < 4; c++) {
                due.is((nodes + 2) + " nodes, cell " + c, x.log(c, 6), where[nodes][c]);
                due.is("cost", x.log(c, 7), where[nodes][c] == 0 ? 1 : 5);
            }
        }
    }

    private static void waitsAtAFullLink() {
        due.by("Terms: if a LINK of THE WAY has had as many ACCESSES in this tick as its WIDTH, it WAITS");
        for (int width = 1; width <= 3; width++) {
            FarCells x = new FarCells(0, 2, 0);
            x.link(0, 1, 1, width);
            Setup.placed(x, 0, 1, 1);
            for (int t = 0; t < 3; t++) {
                Setup.reader(x, 0, 0);
            }
            due.is("as many as its width", x.run(1), width);
            for (int t = 0; t < 3; t++) {
                due.is("waits of thread " + t, x.about(t, 4), t < width ? 0 : 1);
            }
            due.is("waits of the link", x.linked(0, 1, 3), 3 - width);
            due.is("went over it", x.linked(0, 1, 2), width);
        }
    }

    /** Links 1-2 and 0-1, and a thread on 2 that must go over both to a page on 0. */
    private static void waitsAtTheFirstFullLink() {
        due.by("Terms: it and the first such LINK have a WAIT more");
        FarCells x = new FarCells(1, 0, 0);
        x.link(0, 2, 0, 1);
        x.link(0, 1, 1, 1);
        x.link(1, 2, 1, 1);
        Setup.placed(x, 0, 1, 1);
        Setup.placed(x, 0, 0, 1);
        Setup.reader(x, 0, 0);
        Setup.reader(x, 2, 1);
        due.is("only the second link of its way is full", x.run(1), 1);
        due.is("that one has the wait", x.linked(0, 1, 3), 1);
        due.is("not the first link", x.linked(1, 2, 3), 0);
        due.is("nothing went over the first one", x.linked(1, 2, 2), 0);

        FarCells y = new FarCells(1, 1, 0);
        y.link(0, 2, 0, 1);
        y.link(0, 1, 1, 1);
        y.link(1, 2, 1, 1);
        Setup.placed(y, 0, 2, 1);
        Setup.reader(y, 0, 0);
        Setup.reader(y, 0, 0);
        y.run(1);
        due.is("both are full: the first one", y.linked(0, 1, 3), 1);
        due.is("not the second one", y.linked(1, 2, 3), 0);
        due.is("one went over each", y.linked(0, 1, 2) * 10 + y.linked(1, 2, 2), 11);
    }

    private static void waitsAndStaysReady() {
        due.by("Terms: WAITS (the THREAD stays READY)");
        FarCells x = new FarCells(0, 1, 0);
        x.link(0, 1, 1, 1);
        Setup.placed(x, 0, 1, 1);
        Setup.placed(x, 0, 0, 1);
        Setup.reader(x, 0, 0);
        Setup.reader(x, 0, 0);
        Setup.reader(x, 0, 1);
        due.is("the one that waits takes no processor", x.run(1), 2);
        due.is("nothing under way", x.about(1, 3), 0);
        due.is("left", x.about(1, 2), 1);
        due.is("it has not ended", x.about(1, 5), 0);
        due.is("it keeps its place", Setup.queue(x, 0), "0 1 2");
        due.is("nothing failed", x.count(10), 0);
        due.is("in the next tick the link is free", x.run(1), 1);
        due.is("it went", x.about(1, 1), 1);
        due.is("it waited once", x.about(1, 4), 1);
    }

    private static void waitingMakesNoFault() {
        due.by("Terms: else it goes: .. if the PAGE is HIDDEN: it isn't any more");
        FarCells x = new FarCells(0, 1, 0);
        x.link(0, 1, 1, 1);
        x.rule(0, 1, 1);
        Setup.placed(x, 0, 1, 2);
        x.run(1);
        x.rule(0, 0, 1);
        Setup.reader(x, 0, 0);
        Setup.reader(x, 0, 1);
        due.is("one goes, one waits", x.run(1), 1);
        due.is("the page of the first one", x.look(0, 3) * 10 + x.look(0, 4), 1);
        due.is("that of the other one is hidden still", x.look(1, 3) * 10 + x.look(1, 4), 10);
    }

    private static void placedStaysWhileItWaits() {
        due.by("Terms: what was PLACED stays");
        FarCells x = new FarCells(0, 1, 0);
        x.link(0, 1, 1, 1);
        Setup.placed(x, 3, 0, 4);
        Setup.placed(x, 3, 1, 1);
        x.page(0);
        Setup.reader(x, 0, 4);
        Setup.reader(x, 0, 5);
        due.is("the second one waits", x.run(1), 1);
        due.is("its page lies on node 1", x.look(5, 1), 1);
        due.is("places taken", Setup.taken(x), "4 2");
        due.is("it has no bill", x.look(5, 6), 0);
        x.run(1);
        due.is("it is not placed anew", Setup.taken(x), "4 2");

        FarCells y = new FarCells(0, 0, 0);
        y.link(0, 1, 0, 1);
        Setup.placed(y, 3, 0, 4);
        y.page(0);
        Setup.reader(y, 0, 4);
        y.run(1);
        due.is("no way to where it was placed", y.about(0, 5), 1);
        due.is("it stays there", y.look(4, 1), 1);
    }

    private static void bothWaysShareALink() {
        due.by("Terms: each LINK of THE WAY has one more in this tick");
        FarCells x = new FarCells(0, 0, 0);
        x.link(0, 1, 1, 1);
        Setup.placed(x, 0, 1, 1);
        Setup.placed(x, 0, 0, 1);
        Setup.reader(x, 0, 0);
        Setup.reader(x, 1, 1);
        due.is("forth, not back", x.run(1), 1);
        due.is("back in the next tick", x.run(1), 1);
        due.is("went over it", x.linked(1, 0, 2), 2);
        due.is("waits", x.linked(1, 0, 3), 1);
    }
}
