/** Promises 1 to 4 and 20 at their edges: one method for each sentence that names one. */
public final class EdgeBoardTest {
    private static final int LEAST = Setup.LEAST;
    private static final int GREATEST = Setup.GREATEST;
    private static final Due due = new Due();

    public static void main(String[] args) {
        nodesGoRoundBehindThree();
        processorsGoRoundBehindThree();
        roomGoesRoundBehindNine();
        eachNumberCountsForItself();
        nothingIsThereAtFirst();
        linksAtFirst();
        linkPrices();
        linkWidths();
        linkOfPriceZeroIsNone();
        linkAnswersThePriceBefore();
        linkWantsTwoNodes();
        linkTillTickOneIsClosed();
        linkRefusesInOrder();
        farOfOneWithItself();
        farOfTheLongestAndTheShortestWay();
        farWithoutAWay();
        farWantsNodes();
        wayFromItsFirstNodeToItsLast();
        wayOfOneWithItself();
        wayHasNoOtherNodes();
        wayWithoutAWay();
        wayWantsNodes();
        wayByItsFirstNode();
        wayByItsSecondNode();
        linkedWantsTwoNodes();
        linkedHasFourAnswers();
        linkedWhereThereIsNone();
        due.end();
    }

    private static void nodesGoRoundBehindThree() {
        due.by("1: NODES 2 + (nodes modulo 3, from 0)");
        int[][] table = {{0, 2}, {1, 3}, {2, 4}, {3, 2}, {4, 3}, {5, 4}, {-1, 4}, {-2, 3}, {-3, 2}, {-4, 4},
            {GREATEST, 3}, {LEAST, 3}};
        for (int[] t : table) {
            FarCells x = new FarCells(t[0], 0, 0);
            due.is("count(1) of " + t[0], x.count(1), t[1]);
            due.is("the last node of " + t[0], x.node(t[1] - 1, 0), 0);
            due.is("the one behind it", x.node(t[1], 0), -1);
            due.is("a thread on the last one", x.thread(t[1] - 1), 0);
        }
    }

    private static void processorsGoRoundBehindThree() {
        due.by("1: each with 1 + (processors modulo 3) PROCESSORS");
        int[][] table = {{0, 1}, {1, 2}, {2, 3}, {3, 1}, {4, 2}, {5, 3}, {-1, 3}, {-2, 2}, {-3, 1}, {-4, 3},
            {GREATEST, 2}, {LEAST, 2}};
        for (int[] t : table) {
            FarCells x = new FarCells(0, t[0], 0);
            due.is("count(2) of " + t[0], x.count(2), t[1]);
            due.is("free on node 0", x.node(0, 2), t[1]);
            due.is("free on node 1", x.node(1, 2), t[1]);
            x.page(0);
            for (int i = 0; i < 4; i++) {
                Setup.reader(x, 0, 0);
            }
            due.is("so many go at once", x.run(1), t[1]);
        }
    }

    private static void roomGoesRoundBehindNine() {
        due.by("1: 4 + (room modulo 9) ROOM");
        int[][] table = {{0, 4}, {1, 5}, {7, 11}, {8, 12}, {9, 4}, {17, 12}, {-1, 12}, {-8, 5}, {-9, 4}, {-10, 12},
            {GREATEST, 5}, {LEAST, 11}};
        for (int[] t : table) {
            FarCells x = new FarCells(0, 0, t[0]);
            due.is("count(3) of " + t[0], x.count(3), t[1]);
            Setup.pages(x, 0, t[1] + 1);
            for (int p = 0; p < t[1]; p++) {
                due.is("there is room for page " + p, x.place(p, 1), 0);
            }
            due.is("but for no more", x.place(t[1], 1), -2);
            due.is("the other node has its own room", x.place(t[1], 0), 0);
        }
    }

    private static void eachNumberCountsForItself() {
        due.by("1: FarCells(nodes, processors, room)");
        FarCells x = new FarCells(1, 2, 3);
        due.is("nodes", x.count(1), 3);
        due.is("processors", x.count(2), 3);
        due.is("room", x.count(3), 7);
        FarCells y = new FarCells(-1, -3, -2);
        due.is("nodes", y.count(1), 4);
        due.is("processors", y.count(2), 1);
        due.is("room", y.count(3), 11);
    }

    private static void nothingIsThereAtFirst() {
        due.by("Terms: TICKS are numbered, the one that is open is 1 at first; SHELVES hold nothing (at first)");
        FarCells x = new FarCells(2, 0, 0);
        due.is("tick", x.count(0), 1);
        for (int what = 4; what <= 10; what++) {
            due.is("count(" + what + ")", x.count(what), 0);
        }
        for (int node = 0; node < 4; node++) {
            due.is("taken", x.node(node, 0), 0);
            due.is("bill", x.node(node, 1), 0);
            due.is("free", x.node(node, 2), 1);
            due.is("threads", x.node(node, 3), 0);
        }
        for (int d = 0; d < 8; d++) {
            due.is("weight(" + d + ")", x.weight(d), -11);
        }
        due.is("no page", x.look(0, 0), -1);
        due.is("no thread", x.about(0, 0), -1);
        due.is("no access", x.log(0, 0), -1);
    }

    private static void linksAtFirst() {
        due.by("Terms: between two NODES there is a LINK (at first PRICE 2, WIDTH 2)");
        FarCells x = new FarCells(2, 0, 0);
        for (int a = 0; a < 4; a++) {
            for (int b = 0; b < 4; b++) {
                if (a != b) {
                    due.is("price", x.linked(a, b, 0), 2);
                    due.is("width", x.linked(a, b, 1), 2);
                    due.is("went", x.linked(a, b, 2), 0);
                    due.is("waits", x.linked(a, b, 3), 0);
                    due.is("far", x.far(a, b), 2);
                }
            }
        }
    }

    private static void linkPrices() {
        due.by("2: a PRICE (1 .. 9), 0: there is none. -1");
        FarCells x = new FarCells(0, 0, 0);
        due.is("1", x.link(0, 1, 1, 2), 2);
        due.is("far", x.far(0, 1), 1);
        due.is("9", x.link(0, 1, 9, 2), 1);
        due.is("far", x.far(0, 1), 9);
        for (int price : Setup.outside(0, 9)) {
            due.is("price " + price, x.link(0, 1, price, 2), -1);
            due.is("it stays", x.linked(0, 1, 0), 9);
        }
        due.is("0", x.link(0, 1, 0, 2), 9);
    }

    /** The page lies on node 1, and three processors of node 0 and one of node 2 want it over link 0-1. */
    private static void linkWidths() {
        due.by("2: a WIDTH (1 .. 4). -1");
        for (int width = 1; width <= 4; width++) {
            FarCells x = new FarCells(1, 2, 0);
            due.is("width " + width, x.link(0, 1, 2, width), 2);
            x.link(1, 2, 0, 4);
            x.link(0, 2, 1, 4);
            due.is("told", x.linked(1, 0, 1), width);
            Setup.placed(x, 0, 1, 1);
            for (int t = 0; t < 5; t++) {
                Setup.reader(x, t < 3 ? 0 : 2, 0);
            }
            due.is("as many as its width go", x.run(1), width);
            due.is("the others wait", x.linked(0, 1, 3), 5 - width);
        }
        FarCells y = new FarCells(0, 0, 0);
        for (int width : Setup.outside(1, 4)) {
            due.is("width " + width, y.link(0, 1, 3, width), -1);
            due.is("also where there shall be none", y.link(0, 1, 0, width), -1);
            due.is("it stays", y.linked(0, 1, 1), 2);
            due.is("and its price", y.linked(0, 1, 0), 2);
        }
    }

    private static void linkOfPriceZeroIsNone() {
        due.by("2: PRICE (0: there is none)");
        FarCells x = new FarCells(1, 0, 0);
        x.link(0, 1, 0, 4);
        due.is("far goes round", x.far(0, 1), 4);
        due.is("over node 2", x.way(0, 1, 1), 2);
        x.link(0, 2, 0, 4);
        due.is("no way is left", x.far(0, 1), -2);
        x.link(0, 1, 7, 1);
        due.is("it is there again", x.far(0, 1), 7);
    }

    private static void linkAnswersThePriceBefore() {
        due.by("2: the PRICE before");
        FarCells x = new FarCells(1, 0, 0);
        due.is("at first", x.link(1, 2, 0, 1), 2);
        due.is("none before", x.link(2, 1, 0, 1), 0);
        due.is("none before", x.link(2, 1, 5, 1), 0);
        due.is("from its other end", x.link(1, 2, 5, 3), 5);
        due.is("the other links stay", x.linked(0, 1, 0) * 10 + x.linked(0, 2, 0), 22);
    }

    private static void linkWantsTwoNodes() {
        due.by("2: two NODES. -1");
        for (int nodes = 0; nodes < 3; nodes++) {
            FarCells x = new FarCells(nodes, 0, 0);
            int n = nodes + 2;
            for (int wrong : Setup.outside(0, n - 1)) {
                due.is("link(" + wrong + ", 0)", x.link(wrong, 0, 1, 1), -1);
                due.is("link(0, " + wrong + ")", x.link(0, wrong, 1, 1), -1);
            }
            for (int a = 0; a < n; a++) {
                due.is("one with itself", x.link(a, a, 1, 1), -1);
            }
            due.is("the greatest one", x.link(n - 1, 0, 1, 1), 2);
        }
    }

    private static void linkTillTickOneIsClosed() {
        due.by("2: -3: the run has begun (tick 1 is closed)");
        FarCells x = new FarCells(0, 0, 0);
        x.page(0);
        Setup.reader(x, 0, 0);
        x.place(0, 1);
        due.is("a refused run begins nothing", x.run(0), -1);
        due.is("nor does this one", x.run(201), -1);
        due.is("what would have been is no run", x.other(0, 0, 1, 200), 1);
        due.is("tick 1 is open", x.link(0, 1, 3, 1), 2);
        x.run(1);
        due.is("it is closed", x.link(0, 1, 4, 2), -3);
        due.is("also for none", x.link(0, 1, 0, 2), -3);
        due.is("the price stays", x.linked(0, 1, 0), 3);
        due.is("the width stays", x.linked(0, 1, 1), 1);
        x.run(200);
        due.is("for ever", x.link(0, 1, 4, 2), -3);
    }

    private static void linkRefusesInOrder() {
        due.by("2: -1; -3 (the first one)");
        FarCells x = new FarCells(0, 0, 0);
        x.run(1);
        due.is("node", x.link(0, 2, 1, 1), -1);
        due.is("itself", x.link(1, 1, 1, 1), -1);
        due.is("price", x.link(0, 1, 10, 1), -1);
        due.is("width", x.link(0, 1, 1, 0), -1);
    }

    private static void farOfOneWithItself() {
        due.by("3: FAR of two NODES is 0 of one with itself");
        FarCells x = new FarCells(0, 0, 0);
        due.is("with a link", x.far(0, 0), 0);
        x.link(0, 1, 0, 1);
        due.is("without one", x.far(0, 0) + x.far(1, 1), 0);
    }

    private static void farOfTheLongestAndTheShortestWay() {
        due.by("3: FAR is the least sum of PRICES");
        FarCells x = chain(9);
        due.is("three links of 9", x.far(0, 3), 27);
        due.is("back", x.far(3, 0), 27);
        x.link(0, 3, 9, 1);
        due.is("one of 9", x.far(0, 3), 9);
        due.is("two of 9 or two of 9", x.far(0, 2), 18);
        FarCells y = chain(1);
        y.link(0, 3, 4, 1);
        due.is("three of 1 are less than one of 4", y.far(0, 3), 3);
    }

    /** Four nodes, with links from each to the next alone. */
    private static FarCells chain(int price) {
        FarCells x = new FarCells(2, 0, 0);
        x.link(0, 2, 0, 1);
        x.link(0, 3, 0, 1);
        x.link(1, 3, 0, 1);
        for (int a = 0; a < 3; a++) {
            x.link(a, a + 1, price, 1);
        }
        return x;
    }

    private static void farWithoutAWay() {
        due.by("3: -2: there is no WAY");
        FarCells x = chain(1);
        x.link(1, 2, 0, 1);
        due.is("0 to 2", x.far(0, 2), -2);
        due.is("3 to 0", x.far(3, 0), -2);
        due.is("0 to 1", x.far(0, 1), 1);
        due.is("3 to 2", x.far(3, 2), 1);
    }

    private static void farWantsNodes() {
        due.by("3: -1");
        for (int nodes = 0; nodes < 3; nodes++) {
            FarCells x = new FarCells(nodes, 0, 0);
            for (int wrong : Setup.outside(0, nodes + 1)) {
                due.is("far(" + wrong + ", 0)", x.far(wrong, 0), -1);
                due.is("far(0, " + wrong + ")", x.far(0, wrong), -1);
                due.is("far of it with itself", x.far(wrong, wrong), -1);
            }
        }
    }

    private static void wayFromItsFirstNodeToItsLast() {
        due.by("4: NODE i of THE WAY from a to b, from 0 (a itself)");
        FarCells x = chain(9);
        for (int i = 0; i < 4; i++) {
            due.is("forth", x.way(0, 3, i), i);
            due.is("back", x.way(3, 0, i), 3 - i);
        }
        due.is("a short one begins with a", x.way(2, 1, 0), 2);
        due.is("and ends with b", x.way(2, 1, 1), 1);
    }

    private static void wayOfOneWithItself() {
        due.by("4: NODE 0 of THE WAY is a itself");
        FarCells x = chain(9);
        due.is("itself", x.way(2, 2, 0), 2);
        due.is("that is all", x.way(2, 2, 1), -1);
    }

    private static void wayHasNoOtherNodes() {
        due.by("4: -1: none such");
        FarCells x = chain(9);
        for (int wrong : Setup.outside(0, 3)) {
            due.is("of four nodes " + wrong, x.way(0, 3, wrong), -1);
        }
        for (int wrong : Setup.outside(0, 1)) {
            due.is("of two nodes " + wrong, x.way(1, 2, wrong), -1);
        }
    }

    private static void wayWithoutAWay() {
        due.by("4: -2: there is no WAY");
        FarCells x = chain(1);
        x.link(1, 2, 0, 1);
        due.is("not even a itself", x.way(0, 3, 0), -2);
        due.is("nor another one", x.way(3, 1, 1), -2);
        due.is("-1 goes before -2: a place below 0", x.way(0, 3, -1), -1);
        due.is("-1 goes before -2: no such node", x.way(0, 4, 0), -1);
    }

    private static void wayWantsNodes() {
        due.by("4: -1");
        for (int nodes = 0; nodes < 3; nodes++) {
            FarCells x = new FarCells(nodes, 0, 0);
            for (int wrong : Setup.outside(0, nodes + 1)) {
                due.is("way(" + wrong + ", 0)", x.way(wrong, 0, 0), -1);
                due.is("way(0, " + wrong + ")", x.way(0, wrong, 0), -1);
            }
        }
    }

    private static void wayByItsFirstNode() {
        due.by("Terms: of these the one whose first NODE behind it is the least");
        FarCells x = new FarCells(2, 0, 0);
        x.link(0, 3, 4, 1);
        due.is("0-1-3 of 0-1-3, 0-2-3 and 0-3", x.way(0, 3, 1), 1);
        due.is("then 3", x.way(0, 3, 2), 3);
        due.is("3-0 of 3-0, 3-1-0 and 3-2-0", x.way(3, 0, 1), 0);
        due.is("that is all", x.way(3, 0, 2), -1);
        x.link(0, 1, 3, 1);
        due.is("0-2-3 of 0-2-3 and 0-3", x.way(0, 3, 1), 2);
    }

    private static void wayByItsSecondNode() {
        due.by("Terms: of these whose second one, and so on");
        FarCells x = new FarCells(2, 0, 0);
        x.link(0, 3, 0, 1);
        x.link(0, 2, 9, 1);
        x.link(1, 3, 4, 1);
        due.is("both begin with 1", x.way(0, 3, 1), 1);
        due.is("0-1-2-3 of 0-1-2-3 and 0-1-3", x.way(0, 3, 2), 2);
        due.is("its end", x.way(0, 3, 3), 3);
        due.is("back 3-1-0 of 3-1-0 and 3-2-1-0", x.way(3, 0, 1), 1);
        due.is("its end", x.way(3, 0, 2), 0);
        due.is("that is all", x.way(3, 0, 3), -1);
    }

    private static void linkedWantsTwoNodes() {
        due.by("20: of the LINK of two NODES. -1");
        for (int nodes = 0; nodes < 3; nodes++) {
            FarCells x = new FarCells(nodes, 0, 0);
            for (int what = 0; what <= 3; what++) {
                for (int wrong : Setup.outside(0, nodes + 1)) {
                    due.is("linked(" + wrong + ", 0)", x.linked(wrong, 0, what), -1);
                    due.is("linked(0, " + wrong + ")", x.linked(0, wrong, what), -1);
                }
                due.is("one with itself", x.linked(1, 1, what), -1);
            }
        }
    }

    private static void linkedHasFourAnswers() {
        due.by("20: 0 PRICE, 1 WIDTH, 2 ACCESSES that went over it, 3 WAITS. -1");
        FarCells x = new FarCells(0, 2, 0);
        x.link(1, 0, 7, 1);
        Setup.placed(x, 0, 1, 1);
        for (int t = 0; t < 3; t++) {
            Setup.reader(x, 0, 0);
        }
        x.run(1);
        int[] wanted = {7, 1, 1, 2};
        for (int what = 0; what <= 3; what++) {
            due.is("linked(0, 1, " + what + ")", x.linked(0, 1, what), wanted[what]);
            due.is("linked(1, 0, " + what + ")", x.linked(1, 0, what), wanted[what]);
        }
        for (int wrong : Setup.outside(0, 3)) {
            due.is("what " + wrong, x.linked(0, 1, wrong), -1);
        }
    }

    private static void linkedWhereThereIsNone() {
        due.by("2: PRICE (0: there is none); 20: 0 PRICE");
        FarCells x = new FarCells(0, 0, 0);
        x.link(0, 1, 0, 3);
        due.is("price", x.linked(0, 1, 0), 0);
        due.is("width as told", x.linked(0, 1, 1), 3);
    }
}
