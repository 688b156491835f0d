/** Promises 22 to 25 at their edges: one method for each sentence that names one. */
public final class EdgeBehindTest {
    private static final Due due = new Due();

    public static void main(String[] args) {
        bestWantsAPage();
        bestWithoutAccesses();
        bestMayBeAnywhereAtFirst();
        bestWhenAMoveIsWorthIt();
        bestAtTheMovePriceOfNow();
        bestByTheNodesOfThen();
        bestOnEachNode();
        bestWithoutAWay();
        bestOfTheLogAlone();
        gapWantsAPage();
        gapWithoutAccesses();
        gapOfEachPrice();
        gapOfTheLogAlone();
        otherTicks();
        otherRules();
        otherCountsWhatWent();
        otherFromTheBeginning();
        otherAgainFromTheBeginning();
        otherAsToldAndAsNow();
        otherQueuesByNumbers();
        otherFails();
        otherChangesNothing();
        sameOfNone();
        sameOfOne();
        sameOfThreeHundred();
        sameOfAllKinds();
        due.end();
    }

    private static void bestWantsAPage() {
        due.by("22: BEST of a PAGE. -1");
        FarCells x = new FarCells(0, 0, 0);
        due.is("there is none", x.best(0), -1);
        Setup.pages(x, 0, 2);
        for (int wrong : Setup.outside(0, 1)) {
            due.is("page " + wrong, x.best(wrong), -1);
        }
    }

    private static void bestWithoutAccesses() {
        due.by("22: (0 without ACCESSES.)");
        FarCells x = new FarCells(0, 0, 0);
        for (int kind = 0; kind <= 3; kind++) {
            x.page(kind);
            due.is("nowhere", x.best(kind), 0);
            x.place(kind, 1);
            due.is("placed", x.best(kind), 0);
        }
        Setup.reader(x, 1, 0);
        x.run(1);
        due.is("one access", x.best(0), 1);
        due.is("of another page", x.best(3), 0);
    }

    private static void bestMayBeAnywhereAtFirst() {
        due.by("Terms: BEST: if it may be anywhere at first, and there is room");
        FarCells x = new FarCells(0, 0, 0);
        Setup.placed(x, 0, 0, 1);
        Setup.placed(x, 3, 1, 4);
        Setup.reader(x, 1, 0, 0, 0);
        x.run(15);
        due.is("on a node that is full, for nothing", x.best(0), 3);
        due.is("it cost more", x.look(0, 6), 15);
    }

    /** Two accesses from node 0 and two from node 1: a move saves 2 * 4 - 4 of what is far. */
    private static void bestWhenAMoveIsWorthIt() {
        due.by("Terms: BEST: the least of all sums .. and MOVE PRICE for each change of its place between two");
        FarCells x = new FarCells(0, 0, 0);
        x.page(0);
        Setup.reader(x, 0, 0, 0);
        x.run(2);
        x.settle(0, 1);
        Setup.reads(x, 0, 0, 2);
        x.run(20);
        int[][] table = {{0, 4}, {7, 11}, {8, 12}, {9, 12}, {50, 12}};
        for (int[] t : table) {
            x.prices(0, t[0]);
            due.is("move price " + t[0], x.best(0), t[1]);
        }
        x.settle(0, 0);
        Setup.reads(x, 0, 0, 1);
        x.run(20);
        x.prices(0, 1);
        due.is("forth and back", x.best(0), 5 + 2);
        x.prices(0, 3);
        due.is("forth and back", x.best(0), 5 + 6);
        x.prices(0, 5);
        due.is("stay: two far ones", x.best(0), 5 + 8);
    }

    private static void bestAtTheMovePriceOfNow() {
        due.by("Terms: BEST: MOVE PRICE (as it is now)");
        FarCells x = new FarCells(0, 0, 0);
        x.prices(0, 50);
        x.page(0);
        Setup.reader(x, 0, 0);
        x.run(1);
        x.settle(0, 1);
        Setup.reads(x, 0, 0, 1);
        x.run(5);
        due.is("50", x.best(0), 6);
        x.prices(0, 0);
        due.is("0", x.best(0), 2);
        x.prices(0, 51);
        due.is("a refused price changes nothing", x.best(0), 2);
    }

    private static void bestByTheNodesOfThen() {
        due.by("Terms: BEST: FAR of the NODE of the THREAD then");
        FarCells x = new FarCells(0, 0, 0);
        x.prices(0, 3);
        x.page(0);
        Setup.reader(x, 0, 0);
        Setup.reader(x, 1, 0);
        x.run(5);
        due.is("two nodes", x.best(0), 2 + 3);
        x.settle(1, 0);
        due.is("both threads are on node 0 now", x.best(0), 2 + 3);
    }

    /** Node 3 is 1 away from all others, which are 2 away from each other. */
    private static void bestOnEachNode() {
        due.by("Terms: BEST: the place that the PAGE has then (any NODE)");
        FarCells x = new FarCells(2, 0, 0);
        for (int node = 0; node < 3; node++) {
            x.link(node, 3, 1, 4);
        }
        x.prices(0, 50);
        x.page(0);
        for (int node = 0; node < 3; node++) {
            Setup.reader(x, node, 0);
        }
        x.run(10);
        due.is("on node 0, where it was", x.look(0, 6), 1 + 5 + 5);
        due.is("on node 3, from where nobody reads", x.best(0), 3 + 3 + 3);
    }

    private static void bestWithoutAWay() {
        due.by("Terms: BEST: (FAR without a WAY: it can't be)");
        FarCells x = new FarCells(1, 0, 0);
        x.link(0, 2, 0, 1);
        x.link(1, 2, 0, 1);
        x.prices(0, 50);
        Setup.placed(x, 2, 0, 1);
        x.thread(0);
        x.thread(2);
        x.access(0, 0, 0, false, 0);
        x.access(1, 0, 2, false, 0);
        due.is("each finds its cell at hand", x.run(1), 2);
        due.is("no place is good for both: it must move", x.best(0), 2 + 50);
        x.prices(0, 0);
        due.is("for nothing", x.best(0), 2);
    }

    private static void bestOfTheLogAlone() {
        due.by("Terms: BEST: for its ACCESSES in THE LOG");
        FarCells x = beyondTheLog();
        due.is("page 0 stands there 299 times", x.best(0), 299);
        due.is("page 1 once", x.best(1), 1);
        due.is("it went more often", x.look(1, 6) > 1 ? 1 : 0, 1);
    }

    /** 299 accesses of page 0 from node 0, and then five of page 1, which lies on node 1. */
    private static FarCells beyondTheLog() {
        FarCells x = new FarCells(0, 0, 0);
        Setup.placed(x, 0, 0, 1);
        Setup.placed(x, 0, 1, 1);
        Setup.threads(x, 0, 6);
        for (int t = 0; t < 5; t++) {
            Setup.reads(x, t, 0, t == 4 ? 59 : 60);
        }
        x.run(200);
        x.run(99);
        Setup.reads(x, 5, 1, 5);
        x.run(25);
        return x;
    }

    private static void gapWantsAPage() {
        due.by("23: the BILL of a PAGE by THE LOG less NEAREST. -1");
        FarCells x = new FarCells(0, 0, 0);
        due.is("there is none", x.gap(0), -1);
        Setup.pages(x, 0, 2);
        for (int wrong : Setup.outside(0, 1)) {
            due.is("page " + wrong, x.gap(wrong), -1);
        }
    }

    private static void gapWithoutAccesses() {
        due.by("Terms: NEAREST: 1 for each");
        FarCells x = new FarCells(0, 0, 0);
        Setup.pages(x, 0, 2);
        due.is("none", x.gap(0), 0);
        Setup.reader(x, 1, 0, 0, 0);
        x.run(3);
        due.is("all at hand", x.gap(0), 0);
        due.is("of another page", x.gap(1), 0);
    }

    private static void gapOfEachPrice() {
        due.by("23: the BILL by THE LOG (far ones, FAULTS, MOVES and COPIES)");
        FarCells x = new FarCells(0, 0, 0);
        x.rule(0, 1, 10);
        Setup.placed(x, 0, 0, 1);
        Setup.placed(x, 1, 0, 1);
        x.run(1);
        Setup.reader(x, 1, 0, 1);
        x.run(30);
        due.is("far 4, fault 2, move 6", x.gap(0), 12);
        due.is("far 4, fault 2, copy 1", x.gap(1), 7);
    }

    private static void gapOfTheLogAlone() {
        due.by("23: by THE LOG");
        FarCells x = beyondTheLog();
        due.is("page 0", x.gap(0), 0);
        due.is("one far access of page 1", x.gap(1), 4);
        due.is("its bill", x.look(1, 6), 25);
    }

    private static void otherTicks() {
        due.by("24: a run of n ticks (1 .. 200). -1");
        FarCells x = new FarCells(0, 0, 0);
        x.page(0);
        Setup.threads(x, 0, 4);
        for (int t = 0; t < 4; t++) {
            Setup.reads(x, t, 0, 60);
        }
        for (int wrong : Setup.outside(1, 200)) {
            due.is("n is " + wrong, x.other(0, 0, 1, wrong), -1);
        }
        due.is("1", x.other(0, 0, 1, 1), 1);
        due.is("199", x.other(0, 0, 1, 199), 199);
        due.is("200 of 240", x.other(0, 0, 1, 200), 200);
    }

    private static void otherRules() {
        due.by("24: PLACING, EVERY, GAIN as told here. -1");
        FarCells x = new FarCells(0, 0, 0);
        for (int wrong : Setup.outside(0, 2)) {
            due.is("placing " + wrong, x.other(wrong, 0, 1, 1), -1);
        }
        for (int wrong : Setup.outside(0, 50)) {
            due.is("every " + wrong, x.other(0, wrong, 1, 1), -1);
        }
        for (int wrong : Setup.outside(1, 10)) {
            due.is("gain " + wrong, x.other(0, 0, wrong, 1), -1);
        }
        x.page(0);
        Setup.reader(x, 1, 0, 0);
        due.is("at hand", x.other(0, 0, 1, 200), 2);
        due.is("by turns", x.other(1, 0, 1, 200), 10);
        due.is("emptiest", x.other(2, 0, 1, 200), 10);
        due.is("every 50: not before tick 6", x.other(1, 50, 10, 200), 10);
        due.is("every 5: 2 times 3 is not above 6", x.other(1, 5, 3, 200), 12);
        due.is("every 5: 2 times 4 is", x.other(1, 5, 4, 200), 18);
        due.is("every 5: 2 times 10 is", x.other(1, 5, 10, 200), 18);
        due.is("the rule stays", x.run(200), 2);
        due.is("at hand", x.count(7), 2);
    }

    private static void otherCountsWhatWent() {
        due.by("24: what all ACCESSES that went would have COST");
        FarCells x = new FarCells(0, 0, 0);
        due.is("nothing is there", x.other(0, 0, 1, 200), 0);
        x.page(0);
        due.is("no thread", x.other(0, 0, 1, 200), 0);
        x.thread(1);
        due.is("it was told nothing", x.other(0, 0, 1, 200), 0);
        Setup.reads(x, 0, 0, 2);
        due.is("one that is under way at the end counts whole", x.other(1, 0, 1, 1), 5);
        due.is("the next one goes in tick 6", x.other(1, 0, 1, 5), 5);
        due.is("then it counts", x.other(1, 0, 1, 6), 10);
    }

    private static void otherFromTheBeginning() {
        due.by("24: from the beginning, all PAGES nowhere with CELLS 0");
        FarCells x = new FarCells(0, 0, 0);
        Setup.placed(x, 1, 0, 1);
        Setup.reader(x, 1, 0, 0);
        x.rule(0, 1, 1);
        x.run(50);
        due.is("far, a copy, and a fault", x.count(7), 6 + 3);
        due.is("nowhere, so it is placed at hand", x.other(0, 0, 1, 200), 2);
        due.is("hidden behind its first tick", x.other(0, 1, 1, 200), 1 + 3);
        due.is("EVERY counts from tick 1", x.other(0, 2, 1, 200), 2);
        due.is("placing counts from node 0", x.other(1, 0, 1, 200), 6 + 1);
        due.is("and so it does again", x.other(1, 0, 1, 200), 6 + 1);
    }

    private static void otherAgainFromTheBeginning() {
        due.by("24: from the beginning (whatever was asked before)");
        FarCells x = new FarCells(0, 0, 0);
        x.page(0);
        Setup.reader(x, 1, 0, 0);
        due.is("one tick", x.other(0, 0, 1, 1), 1);
        due.is("tick 1 is open again", x.other(0, 2, 1, 200), 2);
        for (int i = 0; i < 6; i++) {
            due.is("no faults are kept from one to the next", x.other(1, 5, 1, 200), 12);
        }
        due.is("one is under way at its end", x.other(1, 0, 1, 1), 5);
        due.is("none is at the beginning", x.other(1, 0, 1, 1), 5);
    }

    private static void otherAsToldAndAsNow() {
        due.by("24: all THREADS as they were told, on the NODES where they are now, other RULES as they are now");
        FarCells x = new FarCells(0, 0, 0);
        x.link(0, 1, 3, 1);
        x.page(0);
        Setup.reader(x, 0, 0, 1);
        x.run(9);
        due.is("it has ended", x.about(0, 5), 1);
        due.is("it would end again", x.other(0, 0, 1, 200), 1);
        x.page(0);
        due.is("now the page is there", x.other(0, 0, 1, 200), 2);
        x.settle(0, 1);
        due.is("from node 1, by turns on 0 and 1, over the link of now", x.other(1, 0, 1, 200), 7 + 1);
        x.prices(20, 50);
        due.is("the fault price of now", x.other(0, 1, 1, 200), 2);
        Setup.reader(x, 1, 0);
        due.is("hidden behind tick 1", x.other(0, 1, 1, 200), 1 + 21 + 1);
        due.is("not hidden in tick 2", x.other(0, 2, 1, 200), 3);
    }

    private static void otherQueuesByNumbers() {
        due.by("24: QUEUES by numbers");
        FarCells x = new FarCells(0, 0, 0);
        x.page(2);
        x.thread(0);
        x.thread(1);
        x.thread(0);
        x.access(0, 0, 0, false, 0);
        x.access(1, 0, 0, false, 0);
        x.access(2, 0, 1, false, 0);
        x.swap(0, 2);
        due.is("queue of now", Setup.queue(x, 0), "2 0");
        due.is("threads 0 and 1 go first", x.other(0, 0, 1, 1), 1 + 5);
        x.settle(1, 0);
        x.settle(1, 0);
        due.is("one node for all", Setup.queue(x, 0), "2 0 1");
        due.is("0, 1, 2", x.other(0, 0, 1, 2), 2);
        due.is("then 2", x.other(0, 0, 1, 3), 7);
    }

    private static void otherFails() {
        due.by("24: ACCESSES that FAILED didn't go");
        FarCells x = new FarCells(0, 0, 0);
        Setup.pages(x, 0, 9);
        Setup.reader(x, 0, 0, 1, 2, 3, 4, 5, 6, 7, 8, 0);
        due.is("four at hand, four far, then no room", x.other(0, 0, 1, 200), 4 + 4 * 5);
        due.is("nothing failed here", x.count(10), 0);
    }

    private static void otherChangesNothing() {
        due.by("24: nothing changes");
        FarCells x = new FarCells(1, 1, 0);
        for (int p = 0; p < 4; p++) {
            x.page(p);
        }
        x.rule(1, 2, 3);
        for (int t = 0; t < 4; t++) {
            Setup.reader(x, t % 3, 0, 1, 2, 3, 0, 9);
            x.access(t, t, t, true, t);
        }
        x.run(7);
        String before = Seen.of(x);
        x.other(0, 1, 10, 200);
        x.other(1, 50, 1, 1);
        x.other(3, 0, 1, 1);
        due.is("all that can be asked", Seen.of(x), before);
    }

    private static void sameOfNone() {
        due.by("25: ends with the same CELLS of all PAGES: 1");
        FarCells x = new FarCells(0, 0, 0);
        due.is("no pages", x.same(), 1);
        Setup.pages(x, 0, 20);
        due.is("no accesses", x.same(), 1);
        Setup.reader(x, 0, 20);
        x.run(1);
        due.is("one that failed", x.same(), 1);
    }

    private static void sameOfOne() {
        due.by("25: the ACCESSES of THE LOG, from the first one to the last one");
        FarCells x = new FarCells(0, 0, 0);
        Setup.pages(x, 0, 20);
        x.thread(0);
        x.access(0, 19, 3, true, Setup.LEAST);
        x.run(1);
        due.is("one write", x.same(), 1);
        x.access(0, 19, 3, true, 0);
        x.access(0, 0, 0, true, -1);
        x.run(10);
        due.is("one that is written over, and another one", x.same(), 1);
    }

    private static void sameOfThreeHundred() {
        due.by("25: -2: more went than THE LOG has");
        FarCells x = new FarCells(0, 0, 0);
        x.page(0);
        Setup.threads(x, 0, 6);
        for (int t = 0; t < 6; t++) {
            for (int i = 0; i < 60; i++) {
                x.access(t, 0, i % 4, true, 100 * t + i);
            }
        }
        x.run(200);
        x.run(99);
        due.is("299", x.same(), 1);
        x.run(1);
        due.is("300", x.same(), 1);
        x.run(1);
        due.is("301", x.same(), -2);
        x.run(200);
        due.is("360", x.same(), -2);
    }

    private static void sameOfAllKinds() {
        due.by("25: a plain memory, which does the ACCESSES of THE LOG in order");
        for (int placing = 0; placing <= 2; placing++) {
            FarCells x = new FarCells(2, 2, 0);
            x.rule(placing, 2, 10);
            for (int p = 0; p < 4; p++) {
                x.page(p);
            }
            for (int t = 0; t < 8; t++) {
                x.thread(t % 4);
                for (int i = 0; i < 30; i++) {
                    x.access(t, (t + i) % 4, i % 4, i % 3 != 0, 1000 * t + i);
                }
            }
            for (int i = 0; i < 20; i++) {
                x.run(20);
                due.is("on the way", x.same(), 1);
            }
            due.is("all went", x.count(6), 240);
        }
    }
}
