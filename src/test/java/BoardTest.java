/** Promises 1 to 4 and 20: the board, its links and ways. */
public final class BoardTest {
    private static final Due due = new Due();

    public static void main(String[] args) {
        newObjects();
        links();
        ways();
        linkCounts();
        due.end();
    }

    private static void newObjects() {
        int[] seeds = {0, 1, 2, 3, 8, 9, 17, -1, -2, -3, -9, -10, Integer.MAX_VALUE, Integer.MIN_VALUE};
        for (int s : seeds) {
            FarCells x = new FarCells(s, s, s);
            due.is("nodes of " + s, x.count(1), 2 + Math.floorMod(s, 3));
            due.is("processors of " + s, x.count(2), 1 + Math.floorMod(s, 3));
            due.is("room of " + s, x.count(3), 4 + Math.floorMod(s, 9));
            for (int what : new int[] {4, 5, 6, 7, 8, 9, 10}) {
                due.is("count(" + what + ") at first", x.count(what), 0);
            }
            due.is("tick at first", x.count(0), 1);
            due.is("price at first", x.linked(0, 1, 0), 2);
            due.is("width at first", x.linked(1, 0, 1), 2);
        }
        FarCells apart = new FarCells(2, 0, 8);
        due.is("nodes", apart.count(1), 4);
        due.is("processors", apart.count(2), 1);
        due.is("room", apart.count(3), 12);
    }

    private static void links() {
        FarCells x = new FarCells(1, 0, 0);
        due.is("new price", x.link(0, 1, 9, 4), 2);
        due.is("the same link from its other end", x.link(1, 0, 0, 1), 9);
        due.is("no link before", x.link(0, 1, 3, 3), 0);
        due.is("a node with itself", x.link(1, 1, 1, 1), -1);
        due.is("no such node", x.link(0, 3, 1, 1), -1);
        due.is("no such node", x.link(-1, 0, 1, 1), -1);
        due.is("price 10", x.link(0, 1, 10, 1), -1);
        due.is("price -1", x.link(0, 1, -1, 1), -1);
        due.is("width 0", x.link(0, 1, 1, 0), -1);
        due.is("width 5", x.link(0, 1, 1, 5), -1);
        due.is("refused calls change nothing", x.linked(0, 1, 0) * 10 + x.linked(0, 1, 1), 33);
        x.run(1);
        due.is("the run has begun", x.link(0, 1, 1, 1), -3);
        due.is("wrong and too late", x.link(0, 1, 1, 9), -1);
        due.is("it stays", x.linked(1, 0, 0), 3);
    }

    private static void ways() {
        FarCells x = new FarCells(2, 0, 0);
        due.is("far of one with itself", x.far(3, 3), 0);
        due.is("far at first", x.far(0, 3), 2);
        due.is("no such node", x.far(0, 4), -1);
        due.is("no such node", x.far(-1, 0), -1);
        due.is("start", x.way(2, 0, 0), 2);
        due.is("end", x.way(2, 0, 1), 0);
        due.is("behind the end", x.way(2, 0, 2), -1);
        due.is("far behind the end", x.way(2, 0, Integer.MAX_VALUE), -1);
        due.is("before the start", x.way(2, 0, -1), -1);
        due.is("of one with itself", x.way(1, 1, 0), 1);
        due.is("of one with itself, behind", x.way(1, 1, 1), -1);
        due.is("no such node", x.way(4, 0, 0), -1);
        // 0-1-3, 0-2-3 and 0-3 cost 4 each: the first node behind 0 decides.
        x.link(0, 3, 4, 1);
        due.is("the least first node", x.way(0, 3, 1), 1);
        due.is("then the end", x.way(0, 3, 2), 3);
        due.is("the way back is chosen from its own start", x.way(3, 0, 1), 0);
        // 0-1-2-3 costs 6 and 0-1-3, 0-2-3, 0-3 cost more.
        x.link(0, 3, 0, 1);
        x.link(0, 2, 9, 1);
        x.link(1, 3, 5, 1);
        due.is("three links", x.far(0, 3), 6);
        due.is("their second node", x.way(0, 3, 2), 2);
        due.is("their third node", x.way(0, 3, 3), 3);
        due.is("behind it", x.way(0, 3, 4), -1);
        // 0-1-2-3 and 0-1-3 cost the same: the second node behind 0 decides.
        x.link(1, 3, 4, 1);
        due.is("the least second node", x.way(0, 3, 2), 2);
        x.link(2, 3, 0, 1);
        x.link(1, 3, 0, 1);
        due.is("no way", x.far(0, 3), -2);
        due.is("no way back", x.far(3, 1), -2);
        due.is("no node of no way", x.way(0, 3, 1), -2);
        due.is("not even the first one", x.way(0, 3, 0), -2);
        due.is("-1 goes before -2", x.way(0, 3, -1), -1);
        due.is("it reaches itself", x.far(3, 3), 0);
    }

    private static void linkCounts() {
        FarCells x = new FarCells(1, 2, 0);
        x.link(0, 1, 3, 1);
        x.link(0, 2, 0, 4);
        due.is("width of none as told", x.linked(0, 2, 1), 4);
        due.is("price of none", x.linked(0, 2, 0), 0);
        x.page(0);
        x.place(0, 2);
        for (int t = 0; t < 3; t++) {
            x.thread(0);
            x.access(t, 0, 0, false, 0);
        }
        due.is("one goes, two wait", x.run(1), 1);
        due.is("went over 0-1", x.linked(1, 0, 2), 1);
        due.is("went over 1-2", x.linked(1, 2, 2), 1);
        due.is("waits of the first full link", x.linked(0, 1, 3), 2);
        due.is("waits of the next one", x.linked(1, 2, 3), 0);
        due.is("a link with itself", x.linked(1, 1, 0), -1);
        due.is("no such node", x.linked(1, 3, 0), -1);
        due.is("no such thing to tell", x.linked(0, 1, 4), -1);
        due.is("no such thing to tell", x.linked(0, 1, -1), -1);
        due.is("the next tick lets one more through", x.run(1), 1);
        due.is("went over 0-1", x.linked(0, 1, 2), 2);
        due.is("waits", x.linked(0, 1, 3), 3);
        due.is("waits of the last thread", x.about(2, 4), 2);
    }
}
