/** What the terms say of placing, hiding, moving and copying pages, at the edges. */
public final class EdgePageTest {
    private static final Due due = new Due();

    public static void main(String[] args) {
        atHandGoesOnToTheNextNode();
        atHandGoesRoundToTheLastPlace();
        noneHasRoom();
        byTurnsGoesRound();
        byTurnsCountsEachKind();
        byTurnsCountsThoseAlone();
        byTurnsWhereItIsFull();
        emptiestIsTheLeast();
        emptiestCountsEachPlace();
        wovenWantsRoomOnEach();
        wovenBaseByTheRule();
        everyZeroIsNever();
        everyFifty();
        everyDividesTheTick();
        aFaultIsOnce();
        fourFaultsAreKept();
        wantedIsTheLeastOfThose();
        wantedIsItsOwn();
        wantedIsTheMostOften();
        gainMustBeAboveTheMovePrice();
        movesIfThereIsRoom();
        movesAreOfPlainOnes();
        moveIsReckonedFromWhereItWas();
        aCopyIfThereIsRoom();
        noSecondCopy();
        onlyReadersOfCopiedOnesCopy();
        writingWithoutCopies();
        writingOnItsPlace();
        writingOnACopy();
        writingFromElsewhere();
        due.end();
    }

    /** Reads a page from a node: the fault, if it is hidden, has that node. */
    private static void touch(FarCells x, int thread, int node, int page) {
        x.settle(thread, node);
        x.access(thread, page, 0, false, 0);
        x.run(100);
    }

    private static void atHandGoesOnToTheNextNode() {
        due.by("Terms: if that one has no room: the next NODE by numbers that has");
        FarCells x = new FarCells(2, 0, 0);
        Setup.placed(x, 3, 1, 3);
        Setup.placed(x, 3, 2, 4);
        Setup.pages(x, 0, 2);
        Setup.reader(x, 1, 7, 8);
        x.run(20);
        due.is("the last place at hand", x.look(7, 1), 1);
        due.is("1 and 2 are full", x.look(8, 1), 3);
        due.is("taken", Setup.taken(x), "0 4 4 1");
    }

    private static void atHandGoesRoundToTheLastPlace() {
        due.by("Terms: (behind the last one 0)");
        FarCells x = new FarCells(2, 0, 0);
        Setup.placed(x, 3, 0, 4);
        Setup.placed(x, 3, 1, 3);
        Setup.placed(x, 3, 2, 4);
        Setup.placed(x, 3, 3, 4);
        x.page(0);
        Setup.reader(x, 2, 15);
        x.run(20);
        due.is("2, 3 and 0 are full", x.look(15, 1), 1);
        FarCells y = new FarCells(1, 0, 0);
        Setup.placed(y, 3, 2, 4);
        y.page(0);
        Setup.reader(y, 2, 4);
        y.run(20);
        due.is("behind node 2 comes 0", y.look(4, 1), 0);
    }

    private static void noneHasRoom() {
        due.by("Terms: if none has the ACCESS FAILS");
        for (int placing = 0; placing <= 2; placing++) {
            FarCells x = new FarCells(0, 0, 0);
            x.rule(placing, 0, 1);
            Setup.placed(x, 3, 0, 4);
            Setup.placed(x, 3, 1, 3);
            Setup.pages(x, 0, 2);
            Setup.reader(x, 0, 7, 8, 7);
            due.is("one place is left", x.run(20), 1);
            due.is("it has it", x.look(7, 1), 1);
            due.is("the other page lies nowhere", x.look(8, 1), -2);
            due.is("ended", x.about(0, 5), 1);
            due.is("taken", Setup.taken(x), "4 4");
        }
    }

    private static void byTurnsGoesRound() {
        due.by("Terms: 1 BY TURNS: the first one on NODE 0, the next one on the next, and so on");
        for (int nodes = 0; nodes < 3; nodes++) {
            FarCells x = new FarCells(nodes, 0, 0);
            x.rule(1, 0, 1);
            Setup.pages(x, 0, 6);
            Setup.reader(x, 1, 0, 1, 2, 3, 4, 5);
            x.run(60);
            for (int p = 0; p < 6; p++) {
                due.is((nodes + 2) + " nodes, page " + p, x.look(p, 1), p % (nodes + 2));
            }
        }
    }

    private static void byTurnsCountsEachKind() {
        due.by("Terms: 1 BY TURNS: the next one on the next (PAGES of all KINDS)");
        FarCells x = new FarCells(2, 0, 4);
        x.rule(1, 0, 1);
        for (int kind = 0; kind <= 3; kind++) {
            x.page(kind);
        }
        x.page(0);
        Setup.reader(x, 0, 2, 1, 3, 0, 4);
        x.run(60);
        int[] nodes = {3, 1, 0, 2, 0};
        for (int p = 0; p < 5; p++) {
            due.is("page " + p, x.look(p, 1), nodes[p]);
        }
    }

    private static void byTurnsCountsThoseAlone() {
        due.by("Terms: the first one that is PLACED by that");
        FarCells x = new FarCells(1, 0, 0);
        Setup.placed(x, 3, 2, 4);
        Setup.placed(x, 3, 1, 1);
        x.page(2);
        Setup.pages(x, 0, 4);
        Setup.reader(x, 1, 6);
        x.run(10);
        due.is("at hand", x.look(6, 1), 1);
        x.rule(1, 0, 1);
        Setup.reader(x, 1, 5);
        x.run(10);
        due.is("a woven one fails for want of room", x.about(1, 5), 1);
        Setup.reader(x, 1, 7);
        x.run(10);
        due.is("neither place, nor another rule, nor a failure takes a turn", x.look(7, 1), 0);
        x.rule(2, 0, 1);
        Setup.reader(x, 1, 8);
        x.run(10);
        due.is("emptiest", x.look(8, 1), 0);
        x.rule(1, 0, 1);
        Setup.reader(x, 0, 30);
        x.run(10);
        due.is("there is no page 30", x.about(4, 5), 1);
        Setup.reader(x, 0, 9);
        x.run(10);
        due.is("the second turn", x.look(9, 1), 1);
    }

    private static void byTurnsWhereItIsFull() {
        due.by("Terms: 1 BY TURNS .. if that one has no room: the next NODE by numbers that has");
        FarCells x = new FarCells(1, 0, 0);
        x.rule(1, 0, 1);
        Setup.placed(x, 3, 0, 4);
        Setup.pages(x, 0, 3);
        Setup.reader(x, 0, 4, 5, 6);
        x.run(40);
        due.is("node 0 is full: node 1", x.look(4, 1), 1);
        due.is("the second one has node 1's turn", x.look(5, 1), 1);
        due.is("the third one node 2's", x.look(6, 1), 2);
    }

    private static void emptiestIsTheLeast() {
        due.by("Terms: 2 EMPTIEST: the fewest places taken, of these the least");
        FarCells x = new FarCells(2, 0, 0);
        x.rule(2, 0, 1);
        Setup.placed(x, 3, 0, 1);
        Setup.pages(x, 0, 4);
        Setup.reader(x, 3, 1, 2, 3, 4);
        x.run(40);
        due.is("1 of 1, 2 and 3", x.look(1, 1), 1);
        due.is("2 of 2 and 3", x.look(2, 1), 2);
        due.is("3", x.look(3, 1), 3);
        due.is("0 of all", x.look(4, 1), 0);
    }

    private static void emptiestCountsEachPlace() {
        due.by("Terms: places taken (also by COPIES and by WOVEN ones)");
        FarCells x = new FarCells(1, 0, 0);
        Setup.placed(x, 1, 0, 1);
        Setup.placed(x, 2, 1, 1);
        x.page(0);
        Setup.reader(x, 1, 0);
        x.run(10);
        due.is("taken", Setup.taken(x), "2 2 1");
        x.rule(2, 0, 1);
        Setup.reader(x, 0, 2);
        x.run(10);
        due.is("emptiest", x.look(2, 1), 2);
    }

    private static void wovenWantsRoomOnEach() {
        due.by("Terms: WOVEN ones: it FAILS, if a NODE has no room");
        for (int full = 0; full < 3; full++) {
            FarCells x = new FarCells(1, 0, 0);
            Setup.placed(x, 3, full, 3);
            Setup.pages(x, 2, 2);
            Setup.reader(x, 1, 3, 4);
            due.is("the last place of node " + full, x.run(20), 1);
            due.is("its base", x.look(3, 1), 1);
            due.is("the next one fails", x.about(0, 5), 1);
            due.is("it lies nowhere", x.look(4, 1), -2);
            due.is("it took no place", x.node(0, 0) + x.node(1, 0) + x.node(2, 0), 6);
        }
    }

    private static void wovenBaseByTheRule() {
        due.by("Terms: WOVEN ones: BASE is that NODE");
        int[] bases = {2, 0, 1};
        for (int placing = 0; placing <= 2; placing++) {
            FarCells x = new FarCells(1, 0, 0);
            x.rule(placing, 0, 1);
            Setup.placed(x, 3, 0, 2);
            Setup.placed(x, 3, 2, 1);
            x.page(2);
            Setup.reader(x, 2, 3);
            x.run(1);
            due.is("placing " + placing, x.look(3, 1), bases[placing]);
            due.is("a place on each", Setup.taken(x), "3 1 2");
        }
    }

    private static void everyZeroIsNever() {
        due.by("Terms: EVERY (0 .. 50; 0 at first: never)");
        FarCells x = new FarCells(0, 0, 0);
        Setup.placed(x, 0, 0, 1);
        x.run(200);
        due.is("at first", x.look(0, 3), 0);
        x.rule(0, 0, 1);
        x.run(200);
        due.is("told", x.look(0, 3), 0);
        x.rule(0, 1, 1);
        x.run(1);
        due.is("1: behind each tick", x.look(0, 3), 1);
        x.rule(0, 0, 1);
        x.run(1);
        due.is("it stays hidden till it is touched", x.look(0, 3), 1);
    }

    private static void everyFifty() {
        due.by("Terms: EVERY (0 .. 50)");
        FarCells x = new FarCells(0, 0, 0);
        x.rule(0, 50, 1);
        Setup.placed(x, 0, 0, 1);
        x.run(49);
        due.is("behind tick 49", x.look(0, 3), 0);
        x.run(1);
        due.is("behind tick 50", x.look(0, 3), 1);
        Setup.reader(x, 0, 0);
        x.run(49);
        due.is("behind tick 99", x.look(0, 3), 0);
        x.run(1);
        due.is("behind tick 100", x.look(0, 3), 1);
    }

    private static void everyDividesTheTick() {
        due.by("Terms: behind each tick that it divides all PAGES that lie somewhere are HIDDEN");
        FarCells x = new FarCells(0, 0, 0);
        Setup.placed(x, 0, 0, 1);
        Setup.placed(x, 1, 1, 1);
        Setup.placed(x, 2, 1, 1);
        Setup.placed(x, 3, 1, 1);
        x.page(0);
        x.run(4);
        x.rule(0, 3, 1);
        x.run(1);
        due.is("3 does not divide 5", x.look(0, 3), 0);
        x.run(1);
        for (int p = 0; p < 4; p++) {
            due.is("3 divides 6: page " + p, x.look(p, 3), 1);
        }
        due.is("not one that lies nowhere", x.look(4, 3), 0);
        Setup.reader(x, 0, 4);
        x.run(1);
        due.is("placed in tick 7", x.log(0, 8), 0);
        due.is("not hidden yet", x.look(4, 3), 0);
        x.run(2);
        due.is("3 divides 9", x.look(4, 3), 1);
    }

    private static void aFaultIsOnce() {
        due.by("Terms: if the PAGE is HIDDEN: it isn't any more, that is a FAULT: FAULT PRICE more");
        FarCells x = new FarCells(0, 1, 0);
        x.rule(0, 1, 1);
        Setup.placed(x, 0, 0, 1);
        Setup.reader(x, 0, 0);
        x.run(1);
        due.is("not hidden yet", x.log(0, 7) * 10 + x.log(0, 8), 10);
        Setup.reads(x, 0, 0, 1);
        Setup.reader(x, 0, 0);
        due.is("two in one tick", x.run(1), 2);
        due.is("the first one has the fault", x.log(1, 7) * 10 + x.log(1, 8), 31);
        due.is("the second one has none", x.log(2, 7) * 10 + x.log(2, 8), 10);
        due.is("faults", x.count(8), 1);
        due.is("kept", x.look(0, 4), 1);
        due.is("hidden again behind the tick", x.look(0, 3), 1);
    }

    private static void fourFaultsAreKept() {
        due.by("Terms: a comes to its FAULTS (the latest 4 are kept)");
        FarCells x = new FarCells(2, 0, 0);
        x.rule(0, 1, 1);
        Setup.placed(x, 3, 0, 1);
        x.thread(0);
        x.run(1);
        int[] from = {3, 2, 1, 0, 1, 3};
        String[] kept = {"3", "2 3", "1 2 3", "0 1 2 3", "1 0 1 2", "3 1 0 1"};
        for (int i = 0; i < 6; i++) {
            touch(x, 0, from[i], 0);
            due.is("kept", Setup.faults(x, 0), kept[i]);
            due.is("how many", x.look(0, 4), Math.min(i + 1, 4));
            due.is("all of them", x.count(8), i + 1);
        }
    }

    private static void wantedIsTheLeastOfThose() {
        due.by("Terms: WANTED is the NODE that stands in its FAULTS most often, of these the least");
        FarCells x = new FarCells(1, 0, 0);
        x.rule(0, 1, 1);
        x.prices(0, 50);
        Setup.placed(x, 0, 2, 1);
        x.thread(0);
        x.run(1);
        touch(x, 0, 0, 0);
        x.prices(0, 1);
        touch(x, 0, 1, 0);
        due.is("0 of 0 and 1, though 1 was the latest", x.look(0, 1), 0);
        due.is("moved", x.look(0, 5), 1);
    }

    private static void wantedIsItsOwn() {
        due.by("Terms: if it isn't its own");
        FarCells x = new FarCells(0, 0, 0);
        x.rule(0, 1, 10);
        x.prices(0, 0);
        Setup.placed(x, 0, 0, 1);
        x.thread(0);
        x.run(1);
        touch(x, 0, 0, 0);
        touch(x, 0, 1, 0);
        due.is("0 of 0 and 1 is its own", x.look(0, 1) * 10 + x.look(0, 5), 0);
        touch(x, 0, 1, 0);
        due.is("1 stands there twice", x.look(0, 1) * 10 + x.look(0, 5), 11);
    }

    /** The faults 3, 3 and 1 on node 0 want node 3, which is nearer to the 3s and farther from 1. */
    private static void wantedIsTheMostOften() {
        due.by("Terms: the sum over its FAULTS of FAR of that NODE and its own, less FAR of it and WANTED");
        for (int price = 2; price <= 3; price++) {
            FarCells x = new FarCells(2, 0, 0);
            x.link(1, 3, 3, 1);
            x.link(1, 2, 9, 1);
            x.rule(0, 1, 1);
            x.prices(0, 50);
            Setup.placed(x, 0, 0, 1);
            x.thread(0);
            x.run(1);
            touch(x, 0, 3, 0);
            touch(x, 0, 3, 0);
            x.prices(0, price);
            touch(x, 0, 1, 0);
            due.is("2 and 2, less 1, is above 2, not above 3", x.look(0, 1), price == 2 ? 3 : 0);
        }
    }

    private static void gainMustBeAboveTheMovePrice() {
        due.by("Terms: if that, times GAIN, is above MOVE PRICE");
        int[][] table = {{5, 10, 50, 0}, {6, 10, 50, 1}, {6, 1, 6, 0}, {7, 1, 6, 1}, {1, 1, 0, 1}, {1, 1, 1, 0},
            {9, 1, 9, 0}, {9, 1, 8, 1}};
        for (int[] t : table) {
            FarCells x = new FarCells(0, 0, 0);
            x.link(0, 1, t[0], 1);
            x.rule(0, 1, t[1]);
            x.prices(0, t[2]);
            Setup.placed(x, 0, 0, 1);
            x.thread(1);
            x.run(1);
            touch(x, 0, 1, 0);
            due.is(t[0] + " times " + t[1] + " above " + t[2], x.look(0, 5), t[3]);
            due.is("cost", x.log(0, 7), 1 + 2 * t[0] + t[3] * t[2]);
            due.is("place", x.look(0, 1), t[3]);
        }
    }

    private static void movesIfThereIsRoom() {
        due.by("Terms: and WANTED has room: it MOVES there");
        for (int others = 3; others <= 4; others++) {
            FarCells x = new FarCells(0, 0, 0);
            x.rule(0, 1, 10);
            x.prices(0, 0);
            Setup.placed(x, 0, 0, 1);
            Setup.placed(x, 3, 1, others);
            x.thread(1);
            x.run(1);
            touch(x, 0, 1, 0);
            due.is(others + " others there", x.look(0, 5), others == 3 ? 1 : 0);
            due.is("place", x.look(0, 1), others == 3 ? 1 : 0);
            due.is("taken", Setup.taken(x), others == 3 ? "0 4" : "1 4");
            due.is("moves", x.count(9), others == 3 ? 1 : 0);
        }
    }

    private static void movesAreOfPlainOnes() {
        due.by("Terms: at a FAULT of a PLAIN one; 3 PINNED: it never moves");
        for (int kind = 0; kind <= 3; kind++) {
            FarCells x = new FarCells(0, 0, 0);
            x.rule(0, 1, 10);
            x.prices(3, 0);
            Setup.placed(x, kind, 0, 1);
            x.thread(1);
            x.run(1);
            x.access(0, 0, 0, true, 1);
            x.run(8);
            x.access(0, 0, 0, true, 2);
            x.run(8);
            due.is("all kinds have faults", x.log(0, 8), 1);
            due.is("moves of kind " + kind, x.look(0, 5), kind == 0 ? 1 : 0);
            due.is("place", x.look(0, 1), kind == 0 ? 1 : 0);
            due.is("cost", x.log(0, 7), 8);
        }
    }

    private static void moveIsReckonedFromWhereItWas() {
        due.by("Terms: MOVE PRICE more (the ACCESS is reckoned from where it was all the same)");
        FarCells x = new FarCells(0, 0, 0);
        x.rule(0, 1, 10);
        x.prices(1, 4);
        Setup.placed(x, 0, 0, 1);
        x.thread(1);
        x.run(1);
        touch(x, 0, 1, 0);
        due.is("where", x.log(0, 6), 0);
        due.is("cost", x.log(0, 7), 5 + 1 + 4);
        due.is("moved", x.log(0, 9), 1);
        due.is("over the link", x.linked(0, 1, 2), 1);
        touch(x, 0, 1, 0);
        due.is("then it is near", x.log(1, 6) * 100 + x.log(1, 7), 102);
        due.is("not moved again", x.log(1, 9), 0);
    }

    private static void aCopyIfThereIsRoom() {
        due.by("Terms: a COPY comes there, if there is room (1 more)");
        for (int others = 3; others <= 4; others++) {
            FarCells x = new FarCells(0, 0, 0);
            Setup.placed(x, 1, 0, 1);
            Setup.placed(x, 3, 1, others);
            Setup.reader(x, 1, 0);
            x.run(10);
            due.is("copies", x.look(0, 2), others == 3 ? 2 : 0);
            due.is("cost", x.log(0, 7), others == 3 ? 6 : 5);
            due.is("taken", Setup.taken(x), "1 4");
        }
    }

    private static void noSecondCopy() {
        due.by("Terms: of a COPIED one that doesn't lie on a, nor a COPY");
        FarCells x = new FarCells(2, 0, 0);
        Setup.placed(x, 1, 3, 1);
        x.thread(0);
        for (int node = 0; node < 4; node++) {
            touch(x, 0, node, 0);
        }
        due.is("a copy on all nodes but its own", x.look(0, 2), 1 + 2 + 4);
        due.is("none where it lies", x.log(3, 7), 1);
        touch(x, 0, 1, 0);
        due.is("no second one", x.log(4, 7), 1);
        due.is("where", x.log(4, 6), 1);
        due.is("taken", Setup.taken(x), "1 1 1 1");
    }

    private static void onlyReadersOfCopiedOnesCopy() {
        due.by("Terms: Read: of a COPIED one");
        for (int kind = 0; kind <= 3; kind++) {
            FarCells x = new FarCells(0, 0, 0);
            Setup.placed(x, kind, 0, 1);
            x.thread(1);
            x.access(0, 0, 0, true, 4);
            x.run(10);
            due.is("a writer brings no copy", x.look(0, 2), 0);
            due.is("cost", x.log(0, 7), 5);
            Setup.reads(x, 0, 0, 1);
            x.run(10);
            due.is("kind " + kind, x.look(0, 2), kind == 1 ? 2 : 0);
            due.is("cost", x.log(1, 7), kind == 1 ? 6 : 5);
            due.is("read", Due.read(x, 0), "4");
        }
    }

    private static void writingWithoutCopies() {
        due.by("Terms: Write: all COPIES end (1 more for each): none");
        FarCells x = new FarCells(0, 0, 0);
        Setup.placed(x, 1, 0, 1);
        x.thread(0);
        x.access(0, 0, 0, true, 4);
        x.run(1);
        due.is("cost", x.log(0, 7), 1);
        due.is("place", x.look(0, 1), 0);
        due.is("taken", Setup.taken(x), "1 0");
    }

    /** A copied page on node 0 with copies on all other nodes; thread 0 comes to a node. */
    private static FarCells copiedAllOver(int node) {
        FarCells x = new FarCells(2, 0, 0);
        Setup.placed(x, 1, 0, 1);
        x.thread(0);
        for (int a = 1; a < 4; a++) {
            touch(x, 0, a, 0);
        }
        x.settle(0, node);
        x.access(0, 0, 3, true, 8);
        x.run(20);
        return x;
    }

    private static void writingOnItsPlace() {
        due.by("Terms: of a COPIED one all COPIES end (1 more for each)");
        FarCells x = copiedAllOver(0);
        due.is("three copies end", x.log(3, 7), 1 + 3);
        due.is("none is left", x.look(0, 2), 0);
        due.is("place", x.look(0, 1), 0);
        due.is("taken", Setup.taken(x), "1 0 0 0");
        due.is("cell", Due.cell(x, 0, 3), "8");
    }

    private static void writingOnACopy() {
        due.by("Terms: but one on a becomes its place, and what was its place ends, too (1 more)");
        for (int node = 1; node < 4; node++) {
            FarCells x = copiedAllOver(node);
            due.is("two copies and the place end", x.log(3, 7), 1 + 3);
            due.is("where", x.log(3, 6), node);
            due.is("none is left", x.look(0, 2), 0);
            due.is("place", x.look(0, 1), node);
            due.is("taken in all", x.node(0, 0) + x.node(1, 0) + x.node(2, 0) + x.node(3, 0), 1);
            due.is("taken there", x.node(node, 0), 1);
            due.is("that is no move", x.look(0, 5) + x.count(9) + x.log(3, 9), 0);
        }
        FarCells y = new FarCells(0, 0, 0);
        Setup.placed(y, 1, 0, 1);
        y.thread(1);
        touch(y, 0, 1, 0);
        y.access(0, 0, 0, true, 3);
        y.run(2);
        due.is("its only copy: the place ends alone", y.log(1, 7), 2);
        due.is("place", y.look(0, 1), 1);
    }

    private static void writingFromElsewhere() {
        due.by("Terms: of a COPIED one all COPIES end, its place stays");
        FarCells x = new FarCells(1, 0, 0);
        Setup.placed(x, 1, 0, 1);
        x.thread(0);
        touch(x, 0, 1, 0);
        x.settle(0, 2);
        x.access(0, 0, 0, true, 3);
        x.run(20);
        due.is("from afar, and one copy ends", x.log(1, 7), 5 + 1);
        due.is("where", x.log(1, 6), 0);
        due.is("place", x.look(0, 1), 0);
        due.is("copies", x.look(0, 2), 0);
        due.is("taken", Setup.taken(x), "1 0 0");
    }
}
