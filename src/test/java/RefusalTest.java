import java.util.function.Supplier;
import java.util.function.ToLongFunction;

/** "A refused call changes nothing", for each call that can be refused: neither what can be asked, nor what comes. */
public final class RefusalTest {
    private static final int NO_ARGUMENT = -100;
    private static final int NO_STATE = -101;
    private static final Due due = new Due();

    public static void main(String[] args) {
        links();
        pagesAndThreads();
        accesses();
        rulesAndPrices();
        places();
        settlesAndSwaps();
        runs();
        shelves();
        copies();
        questions();
        due.end();
    }

    /** Makes the refused call on one of two objects that are alike, and lets both go on. */
    private static void refused(String name, int want, Supplier<FarCells> setup, ToLongFunction<FarCells> call) {
        due.by("Terms: a refused call changes nothing: " + name);
        FarCells x = setup.get();
        FarCells twin = setup.get();
        String before = Seen.of(x);
        due.is("the answer", call.applyAsLong(x), want);
        due.is("what can be asked", Seen.of(x), before);
        goOn(x);
        goOn(twin);
        due.is("what comes", Seen.of(x), Seen.of(twin));
    }

    private static void goOn(FarCells x) {
        for (int p = 0; p < 4; p++) {
            x.page(p);
        }
        for (int t = 0; t < x.count(5); t++) {
            for (int p = x.count(4) - 1; p >= 0; p--) {
                x.access(t, p, (t + p) % 4, (t + p) % 3 == 0, t - p);
            }
        }
        x.run(60);
        x.copy(1, 0, 4, 1, 1);
        x.copy(2, 0, 5, 1, 1);
    }

    /** In tick 8: thread 0 is under way, thread 3 has ended; shelves 3, 6 and 7 hold nothing. */
    private static FarCells busy() {
        FarCells x = early();
        x.run(7);
        x.keep(0, 1, 1);
        x.keep(1, 3, 0);
        x.keep(2, 4, 0);
        return x;
    }

    /** In tick 1, with pages of all kinds, of which 0 lies on node 2 and page 4 lies nowhere. */
    private static FarCells early() {
        FarCells x = new FarCells(1, 1, 0);
        x.link(0, 1, 3, 1);
        x.link(0, 2, 0, 1);
        x.rule(1, 3, 2);
        x.prices(1, 4);
        for (int p = 0; p < 5; p++) {
            x.page(p % 4);
        }
        x.place(0, 2);
        for (int t = 0; t < 4; t++) {
            x.thread(t % 3);
        }
        x.access(0, 0, 1, true, 7);
        Setup.reads(x, 0, 1, 1);
        Setup.reads(x, 1, 1, 3);
        x.access(2, 0, 0, true, 5);
        x.access(2, 2, 3, true, 6);
        x.access(3, 1, 2, true, 8);
        x.access(3, 30, 0, false, 0);
        x.make(4, 3, 5);
        x.make(5, 4, 5);
        return x;
    }

    /** 20 pages, 10 threads, thread 9 with 60 accesses, and no room on node 1. */
    private static FarCells full() {
        FarCells x = new FarCells(1, 0, 0);
        x.rule(2, 2, 3);
        Setup.placed(x, 3, 1, 4);
        Setup.pages(x, 0, 13);
        Setup.pages(x, 1, 2);
        Setup.pages(x, 2, 1);
        Setup.threads(x, 0, 10);
        Setup.reads(x, 9, 5, 60);
        x.run(1);
        return x;
    }

    private static void links() {
        refused("link: node", -1, RefusalTest::early, x -> x.link(0, 3, 1, 1));
        refused("link: itself", -1, RefusalTest::early, x -> x.link(1, 1, 1, 1));
        refused("link: price", -1, RefusalTest::early, x -> x.link(0, 1, 10, 1));
        refused("link: width", -1, RefusalTest::early, x -> x.link(0, 1, 1, 5));
        refused("link: begun", -3, RefusalTest::busy, x -> x.link(0, 1, 1, 4));
    }

    private static void pagesAndThreads() {
        refused("page: kind", -1, RefusalTest::busy, x -> x.page(4));
        refused("page: 20", -2, RefusalTest::full, x -> x.page(0));
        refused("thread: node", -1, RefusalTest::busy, x -> x.thread(3));
        refused("thread: 10", -2, RefusalTest::full, x -> x.thread(1));
    }

    private static void accesses() {
        refused("access: thread", -1, RefusalTest::busy, x -> x.access(4, 0, 0, true, 1));
        refused("access: page", -1, RefusalTest::busy, x -> x.access(0, 31, 0, true, 1));
        refused("access: cell", -1, RefusalTest::busy, x -> x.access(0, 0, 8, true, 1));
        refused("access: ended", -1, RefusalTest::busy, x -> x.access(3, 0, 0, true, 1));
        refused("access: 60", -2, RefusalTest::full, x -> x.access(9, 0, 0, true, 1));
    }

    private static void rulesAndPrices() {
        refused("rule: placing", -1, RefusalTest::busy, x -> x.rule(3, 1, 1));
        refused("rule: every", -1, RefusalTest::busy, x -> x.rule(0, 51, 1));
        refused("rule: gain", -1, RefusalTest::busy, x -> x.rule(0, 1, 0));
        refused("prices: fault", -1, RefusalTest::busy, x -> x.prices(21, 0));
        refused("prices: move", -1, RefusalTest::busy, x -> x.prices(0, 51));
    }

    private static void places() {
        refused("place: page", -1, RefusalTest::busy, x -> x.place(5, 0));
        refused("place: node", -1, RefusalTest::busy, x -> x.place(4, 3));
        refused("place: full", -2, RefusalTest::full, x -> x.place(10, 1));
        refused("place: woven", -2, RefusalTest::full, x -> x.place(19, 0));
        refused("place: somewhere", -3, RefusalTest::busy, x -> x.place(0, 0));
    }

    private static void settlesAndSwaps() {
        refused("settle: thread", -1, RefusalTest::busy, x -> x.settle(4, 0));
        refused("settle: node", -1, RefusalTest::busy, x -> x.settle(1, 3));
        refused("settle: under way", -3, RefusalTest::busy, x -> x.settle(0, 1));
        refused("swap: thread", -1, RefusalTest::busy, x -> x.swap(1, 4));
        refused("swap: one", -1, RefusalTest::busy, x -> x.swap(1, 1));
        refused("swap: under way", -3, RefusalTest::busy, x -> x.swap(1, 0));
        refused("swap: under way", -3, RefusalTest::busy, x -> x.swap(0, 2));
    }

    private static void runs() {
        refused("run: 0", -1, RefusalTest::busy, x -> x.run(0));
        refused("run: 201", -1, RefusalTest::busy, x -> x.run(201));
        refused("run: 201", -1, RefusalTest::early, x -> x.run(201));
        refused("other: placing", -1, RefusalTest::busy, x -> x.other(3, 1, 1, 1));
        refused("other: every", -1, RefusalTest::busy, x -> x.other(0, 51, 1, 1));
        refused("other: gain", -1, RefusalTest::busy, x -> x.other(0, 1, 11, 1));
        refused("other: ticks", -1, RefusalTest::busy, x -> x.other(0, 1, 1, 201));
    }

    private static void shelves() {
        refused("keep: shelf", -1, RefusalTest::busy, x -> x.keep(8, 1, 0));
        refused("keep: what", -1, RefusalTest::busy, x -> x.keep(0, 2, 0));
        refused("keep: page", -1, RefusalTest::busy, x -> x.keep(1, 1, 5));
        refused("keep: cells", -1, RefusalTest::busy, x -> x.keep(0, 4, 5));
        refused("make: shelf", -1, RefusalTest::busy, x -> x.make(-1, 3, 1));
        refused("make: what", -1, RefusalTest::busy, x -> x.make(0, 1, 1));
        refused("make: 61", -1, RefusalTest::busy, x -> x.make(2, 3, 61));
        refused("make: below 0", -14, RefusalTest::busy, x -> x.make(2, 4, -1));
        refused("weight: shelf", -1, RefusalTest::busy, x -> x.weight(8));
        refused("weight: nothing", -11, RefusalTest::busy, x -> x.weight(3));
        refused("weight: row", -12, RefusalTest::busy, x -> x.weight(1));
        refused("toss: shelf", -1, RefusalTest::busy, x -> x.toss(8));
        refused("toss: nothing", -11, RefusalTest::busy, x -> x.toss(3));
        refused("toss: row", -12, RefusalTest::busy, x -> x.toss(2));
        refused("toss: plain", -15, () -> withPlainPage(), x -> x.toss(3));
        refused("element: shelf", NO_ARGUMENT, RefusalTest::busy, x -> codeOf(Due.element(x, 8, 0)));
        refused("element: nothing", NO_STATE, RefusalTest::busy, x -> codeOf(Due.element(x, 3, 0)));
        refused("element: page", NO_STATE, RefusalTest::busy, x -> codeOf(Due.element(x, 0, 0)));
        refused("element: place", NO_STATE, RefusalTest::busy, x -> codeOf(Due.element(x, 1, 4)));
    }

    private static FarCells withPlainPage() {
        FarCells x = busy();
        x.keep(3, 1, 0);
        return x;
    }

    private static long codeOf(String answer) {
        switch (answer) {
            case "IllegalArgumentException": return NO_ARGUMENT;
            case "IllegalStateException": return NO_STATE;
            default: return Long.parseLong(answer);
        }
    }

    private static void copies() {
        refused("copy: shelf", -1, RefusalTest::busy, x -> x.copy(1, 0, 8, 0, 1));
        refused("copy: nothing", -11, RefusalTest::busy, x -> x.copy(1, 0, 3, 0, 1));
        refused("copy: page", -12, RefusalTest::busy, x -> x.copy(0, 0, 4, 0, 1));
        refused("copy: bytes to ints", -12, RefusalTest::busy, x -> x.copy(1, 0, 5, 0, 1));
        refused("copy: beyond the first", -13, RefusalTest::busy, x -> x.copy(2, 1, 5, 0, 4));
        refused("copy: beyond the second", -13, RefusalTest::busy, x -> x.copy(1, 0, 4, 2, 4));
        refused("copy: below 0", -13, RefusalTest::busy, x -> x.copy(1, 0, 4, -1, 2));
    }

    private static void questions() {
        refused("far", -1, RefusalTest::busy, x -> x.far(0, 3));
        refused("way: node", -1, RefusalTest::busy, x -> x.way(0, 3, 0));
        refused("way: place", -1, RefusalTest::busy, x -> x.way(0, 1, 2));
        refused("look: page", -1, RefusalTest::busy, x -> x.look(5, 0));
        refused("look: what", -1, RefusalTest::busy, x -> x.look(0, 7));
        refused("fault", -1, RefusalTest::busy, x -> x.fault(0, 4));
        refused("cell", NO_ARGUMENT, RefusalTest::busy, x -> codeOf(Due.cell(x, 0, 4)));
        refused("about: thread", -1, RefusalTest::busy, x -> x.about(4, 0));
        refused("about: what", -1, RefusalTest::busy, x -> x.about(0, 8));
        refused("read", NO_ARGUMENT, RefusalTest::busy, x -> codeOf(Due.read(x, 4)));
        refused("node", -1, RefusalTest::busy, x -> x.node(3, 0));
        refused("linked", -1, RefusalTest::busy, x -> x.linked(0, 0, 0));
        refused("log", -1, RefusalTest::busy, x -> x.log(300, 0));
        refused("best", -1, RefusalTest::busy, x -> x.best(5));
        refused("gap", -1, RefusalTest::busy, x -> x.gap(5));
        refused("count", -1, RefusalTest::busy, x -> x.count(11));
    }
}
