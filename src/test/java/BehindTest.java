/** Promises 22 to 25: what could have been known behind. */
public final class BehindTest {
    private static final Due due = new Due();

    public static void main(String[] args) {
        bests();
        bestsWithoutWays();
        gaps();
        others();
        othersBegin();
        sames();
        due.end();
    }

    private static void tell(FarCells x, int thread, int page, int n) {
        for (int i = 0; i < n; i++) {
            x.access(thread, page, i % 4, true, i + 1);
        }
    }

    private static void bests() {
        FarCells x = new FarCells(0, 0, 0);
        due.is("no such page", x.best(0), -1);
        x.page(0);
        x.page(3);
        due.is("no accesses", x.best(0), 0);
        due.is("no such page", x.best(2), -1);
        due.is("no such page", x.best(-1), -1);
        x.place(0, 0);
        x.thread(1);
        tell(x, 0, 0, 3);
        x.run(15);
        due.is("it may be anywhere at first", x.best(0), 3);
        x.settle(0, 0);
        tell(x, 0, 0, 1);
        x.run(1);
        due.is("a far one is less than a move", x.best(0), 3 + 5);
        tell(x, 0, 0, 1);
        x.run(1);
        due.is("a move is less than two far ones", x.best(0), 3 + 6 + 2);
        x.prices(2, 50);
        due.is("the move price is that of now", x.best(0), 3 + 5 + 5);
        x.prices(2, 0);
        due.is("moves for nothing", x.best(0), 5);
        due.is("of the other page", x.best(1), 0);
    }

    private static void bestsWithoutWays() {
        FarCells x = new FarCells(0, 0, 0);
        x.link(0, 1, 0, 1);
        x.page(2);
        x.place(0, 0);
        x.thread(0);
        x.thread(1);
        x.access(0, 0, 0, true, 1);
        x.access(1, 0, 1, true, 1);
        due.is("both are near", x.run(1), 2);
        due.is("only a move will do", x.best(0), 2 + 6);
        x.prices(0, 50);
        due.is("whatever it costs", x.best(0), 2 + 50);
    }

    private static void gaps() {
        FarCells x = new FarCells(0, 0, 0);
        due.is("no such page", x.gap(0), -1);
        x.page(0);
        x.page(0);
        due.is("no accesses", x.gap(0), 0);
        due.is("no such page", x.gap(2), -1);
        due.is("no such page", x.gap(-1), -1);
        x.place(0, 0);
        x.rule(0, 1, 1);
        x.run(1);
        x.thread(1);
        tell(x, 0, 0, 2);
        x.access(0, 1, 0, false, 0);
        x.run(40);
        due.is("far and faults", x.gap(0), 2 * (4 + 2));
        due.is("placed where it is touched", x.gap(1), 0);
    }

    private static void others() {
        FarCells x = new FarCells(0, 0, 0);
        due.is("nothing to do", x.other(0, 0, 1, 200), 0);
        due.is("n is 0", x.other(0, 0, 1, 0), -1);
        due.is("n is 201", x.other(0, 0, 1, 201), -1);
        x.page(0);
        x.page(0);
        x.thread(1);
        tell(x, 0, 0, 1);
        tell(x, 0, 1, 2);
        due.is("at hand", x.other(0, 0, 1, 200), 3);
        due.is("by turns: the first one on node 0", x.other(1, 0, 1, 200), 7);
        due.is("emptiest", x.other(2, 0, 1, 200), 7);
        due.is("of one tick", x.other(0, 0, 1, 1), 1);
        due.is("the cost of what is under way counts", x.other(1, 0, 1, 1), 5);
        due.is("with faults", x.other(0, 1, 1, 200), 3 + 2);
        x.prices(20, 6);
        due.is("fault price of now", x.other(0, 1, 1, 200), 3 + 20);
        due.is("nothing has changed", x.count(6) + x.count(7) + x.count(8), 0);
        due.is("it lies nowhere", x.look(0, 1), -2);
        due.is("tick", x.count(0), 1);
        due.is("the log is empty", x.log(0, 0), -1);
    }

    private static void othersBegin() {
        FarCells x = new FarCells(0, 0, 0);
        x.page(0);
        x.place(0, 1);
        x.thread(0);
        x.thread(0);
        tell(x, 0, 0, 2);
        tell(x, 1, 0, 2);
        x.access(0, 1, 0, true, 9);
        x.run(30);
        due.is("it has ended", x.about(0, 5), 1);
        due.is("cost", x.count(7), 20);
        due.is("all pages nowhere, from the beginning", x.other(0, 0, 1, 200), 4);
        due.is("twice the same", x.other(0, 0, 1, 200), 4);
        x.page(0);
        due.is("the access that failed finds its page now", x.other(0, 0, 1, 200), 5);
        x.settle(1, 1);
        due.is("threads where they are now", x.other(0, 0, 1, 200), 3 + 2 * 5);
        due.is("still ended", x.about(0, 5), 1);
        due.is("cells stay", Due.cell(x, 0, 0), "1");
        due.is("same", x.same(), 1);

        // Thread 0 would go for 1, thread 1 for 5; there is one processor.
        FarCells y = new FarCells(0, 0, 0);
        y.page(2);
        y.thread(0);
        y.thread(0);
        y.access(0, 0, 0, false, 0);
        y.access(1, 0, 1, false, 0);
        y.swap(0, 1);
        due.is("queues by numbers", y.other(0, 0, 1, 1), 1);
        y.run(1);
        due.is("not as they are", y.count(7), 5);
    }

    private static void sames() {
        FarCells x = new FarCells(1, 2, 0);
        due.is("no accesses", x.same(), 1);
        for (int p = 0; p < 4; p++) {
            x.page(p);
        }
        for (int t = 0; t < 3; t++) {
            x.thread(t);
            for (int i = 0; i < 20; i++) {
                x.access(t, i % 4, i % 3, i % 5 != 0, t * 1000 + i);
            }
        }
        x.rule(1, 3, 2);
        x.run(200);
        due.is("all have ended", x.about(0, 2) + x.about(1, 2) + x.about(2, 2), 0);
        due.is("same", x.same(), 1);
    }
}
