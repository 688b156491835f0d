import java.util.Arrays;

/** A machine whose memories lie near to some processors and far from others. */
public final class FarCells {
    private static final int NO_SUCH = -1;
    private static final int NO_MORE = -2;
    private static final int NOT_NOW = -3;
    private static final int NOTHING_HELD = -11;
    private static final int OTHER_KIND = -12;
    private static final int NO_PLACE = -13;
    private static final int BELOW_ZERO = -14;
    private static final int NO_FAILURE = -15;

    private static final int MOST_NODES = 4;
    private static final int MOST_PAGES = 20;
    private static final int MOST_THREADS = 10;
    private static final int MOST_ACCESSES = 60;
    private static final int MOST_LOGGED = 300;
    private static final int MOST_TICKS = 200;
    private static final int MOST_SHELVES = 8;
    private static final int MOST_ELEMENTS = 60;
    private static final int MOST_FAULTS = 4;
    private static final int CELLS = 4;

    private static final int LAST_TOLD_PAGE = 30;
    private static final int LAST_TOLD_CELL = 7;
    private static final int LAST_PRICE = 9;
    private static final int LAST_WIDTH = 4;
    private static final int LAST_FAULT_PRICE = 20;
    private static final int LAST_MOVE_PRICE = 50;

    private static final int PLAIN = 0;
    private static final int COPIED = 1;
    private static final int WOVEN = 2;
    private static final int PINNED = 3;

    private static final int AT_HAND = 0;
    private static final int BY_TURNS = 1;
    private static final int EMPTIEST = 2;

    private static final int NOWHERE = -1;
    /** Above every sum of prices that a way can have, and low enough to be added up. */
    private static final int UNREACHED = 1000;
    /** Above every sum that BEST can have, and low enough to be added up. */
    private static final int IMPOSSIBLE = 1 << 29;

    private static final int NOTHING = 0;
    private static final int A_PAGE = 1;
    private static final int BYTES = 3;
    private static final int INTS = 4;

    private final Board board;
    private final Machine machine;
    /** The machine on which other() tries what would have been. */
    private final Machine trial;
    private final Shelf[] shelves;

    public FarCells(int nodes, int processors, int room) {
        board = new Board(2 + Math.floorMod(nodes, 3), 1 + Math.floorMod(processors, 3), 4 + Math.floorMod(room, 9));
        Script[] scripts = new Script[MOST_THREADS];
        for (int t = 0; t < MOST_THREADS; t++) {
            scripts[t] = new Script();
        }
        machine = new Machine(board, scripts, MOST_LOGGED);
        trial = new Machine(board, scripts, 0);
        shelves = new Shelf[MOST_SHELVES];
        for (int d = 0; d < MOST_SHELVES; d++) {
            shelves[d] = new Shelf();
        }
    }

    public int link(int a, int b, int price, int width) {
        if (!board.joins(a, b) || !within(price, 0, LAST_PRICE) || !within(width, 1, LAST_WIDTH)) {
            return NO_SUCH;
        }
        if (machine.tick > 1) {
            return NOT_NOW;
        }
        int before = board.price[board.edge(a, b)];
        board.setLink(a, b, price, width);
        return before;
    }

    public int far(int a, int b) {
        if (!board.has(a) || !board.has(b)) {
            return NO_SUCH;
        }
        return board.reaches(a, b) ? board.distance(a, b) : NO_MORE;
    }

    public int way(int a, int b, int i) {
        if (!board.has(a) || !board.has(b) || i < 0) {
            return NO_SUCH;
        }
        if (!board.reaches(a, b)) {
            return NO_MORE;
        }
        if (i >= board.nodes) {
            return NO_SUCH;
        }
        int at = a;
        for (int step = 0; step < i; step++) {
            if (at == b) {
                return NO_SUCH;
            }
            at = board.nextNode(at, b);
        }
        return at;
    }

    public int page(int kind) {
        if (!within(kind, PLAIN, PINNED)) {
            return NO_SUCH;
        }
        return machine.pageCount == MOST_PAGES ? NO_MORE : machine.addPage(kind);
    }

    public int thread(int node) {
        if (!board.has(node)) {
            return NO_SUCH;
        }
        return machine.workerCount == MOST_THREADS ? NO_MORE : machine.addWorker(node);
    }

    public int access(int thread, int page, int cell, boolean writes, int v) {
        if (!machine.hasWorker(thread) || !within(page, 0, LAST_TOLD_PAGE) || !within(cell, 0, LAST_TOLD_CELL)) {
            return NO_SUCH;
        }
        Worker worker = machine.workers[thread];
        if (worker.ended) {
            return NO_SUCH;
        }
        if (worker.script.told == MOST_ACCESSES) {
            return NO_MORE;
        }
        return worker.script.tell(page, cell, writes, v);
    }

    public int rule(int placing, int every, int gain) {
        if (!ruleIsAllowed(placing, every, gain)) {
            return NO_SUCH;
        }
        machine.rules.choose(placing, every, gain);
        return 0;
    }

    public int prices(int fault, int move) {
        if (!within(fault, 0, LAST_FAULT_PRICE) || !within(move, 0, LAST_MOVE_PRICE)) {
            return NO_SUCH;
        }
        machine.rules.setPrices(fault, move);
        return 0;
    }

    public int place(int page, int node) {
        if (!machine.hasPage(page) || !board.has(node)) {
            return NO_SUCH;
        }
        Page laid = machine.pages[page];
        if (!machine.fits(laid, node)) {
            return NO_MORE;
        }
        if (laid.home != NOWHERE) {
            return NOT_NOW;
        }
        machine.lay(laid, node);
        return 0;
    }

    public int settle(int thread, int node) {
        if (!machine.hasWorker(thread) || !board.has(node)) {
            return NO_SUCH;
        }
        Worker worker = machine.workers[thread];
        if (worker.toGo > 0) {
            return NOT_NOW;
        }
        int before = worker.node;
        machine.queues.drop(before, thread);
        machine.queues.append(node, thread);
        worker.node = node;
        return before;
    }

    public int swap(int a, int b) {
        if (!machine.hasWorker(a) || !machine.hasWorker(b) || a == b) {
            return NO_SUCH;
        }
        Worker first = machine.workers[a];
        Worker second = machine.workers[b];
        if (first.toGo > 0 || second.toGo > 0) {
            return NOT_NOW;
        }
        machine.queues.exchange(first.node, a, second.node, b);
        int node = first.node;
        first.node = second.node;
        second.node = node;
        return 0;
    }

    public int run(int n) {
        if (!within(n, 1, MOST_TICKS)) {
            return NO_SUCH;
        }
        int before = machine.went;
        for (int i = 0; i < n; i++) {
            machine.doTick();
        }
        return machine.went - before;
    }

    public int look(int page, int what) {
        if (!machine.hasPage(page)) {
            return NO_SUCH;
        }
        Page seen = machine.pages[page];
        switch (what) {
            case 0: return seen.kind;
            case 1: return seen.home == NOWHERE ? NO_MORE : seen.home;
            case 2: return seen.copies;
            case 3: return seen.hidden ? 1 : 0;
            case 4: return seen.faultCount;
            case 5: return seen.moves;
            case 6: return seen.bill;
            default: return NO_SUCH;
        }
    }

    public int fault(int page, int i) {
        if (!machine.hasPage(page)) {
            return NO_SUCH;
        }
        Page seen = machine.pages[page];
        return within(i, 0, seen.faultCount - 1) ? seen.faults[i] : NO_SUCH;
    }

    public int cell(int page, int cell) throws IllegalArgumentException {
        if (!machine.hasPage(page) || !within(cell, 0, CELLS - 1)) {
            throw new IllegalArgumentException("no such cell");
        }
        return machine.pages[page].cells[cell];
    }

    public int about(int thread, int what) {
        if (!machine.hasWorker(thread)) {
            return NO_SUCH;
        }
        Worker worker = machine.workers[thread];
        switch (what) {
            case 0: return worker.node;
            case 1: return worker.gone;
            case 2: return worker.left();
            case 3: return worker.toGo;
            case 4: return worker.waits;
            case 5: return worker.ended ? 1 : 0;
            case 6: return worker.bill;
            case 7: return machine.queues.placeOf(worker.node, thread);
            default: return NO_SUCH;
        }
    }

    public int read(int thread) throws IllegalArgumentException {
        if (!machine.hasWorker(thread)) {
            throw new IllegalArgumentException("no such thread");
        }
        return machine.workers[thread].lastRead;
    }

    public int node(int node, int what) {
        if (!board.has(node)) {
            return NO_SUCH;
        }
        switch (what) {
            case 0: return machine.taken[node];
            case 1: return machine.nodeBills[node];
            case 2: return machine.freeProcessors(node);
            case 3: return machine.queues.size[node];
            default: return NO_SUCH;
        }
    }

    public int linked(int a, int b, int what) {
        if (!board.joins(a, b)) {
            return NO_SUCH;
        }
        int edge = board.edge(a, b);
        switch (what) {
            case 0: return board.price[edge];
            case 1: return board.width[edge];
            case 2: return machine.traffic.carried[edge];
            case 3: return machine.traffic.waits[edge];
            default: return NO_SUCH;
        }
    }

    public int log(int i, int what) {
        if (!within(i, 0, machine.journal.size - 1) || !within(what, 0, Journal.MOVED)) {
            return NO_SUCH;
        }
        return machine.journal.entry(i, what);
    }

    public int best(int page) {
        if (!machine.hasPage(page)) {
            return NO_SUCH;
        }
        int least = machine.journal.leastSum(page, board, machine.rules.movePrice);
        return least < IMPOSSIBLE ? least : NO_MORE;
    }

    public int gap(int page) {
        return machine.hasPage(page) ? machine.journal.costAboveNearest(page) : NO_SUCH;
    }

    public int other(int placing, int every, int gain, int n) {
        if (!ruleIsAllowed(placing, every, gain) || !within(n, 1, MOST_TICKS)) {
            return NO_SUCH;
        }
        trial.beginLike(machine);
        trial.rules.choose(placing, every, gain);
        for (int i = 0; i < n; i++) {
            trial.doTick();
        }
        return trial.cost;
    }

    public int same() {
        if (machine.went > machine.journal.size) {
            return NO_MORE;
        }
        return machine.journal.endsAlike(machine.pages, machine.pageCount) ? 1 : 0;
    }

    public int count(int what) {
        switch (what) {
            case 0: return machine.tick;
            case 1: return board.nodes;
            case 2: return board.processors;
            case 3: return board.room;
            case 4: return machine.pageCount;
            case 5: return machine.workerCount;
            case 6: return machine.went;
            case 7: return machine.cost;
            case 8: return machine.faults;
            case 9: return machine.moves;
            case 10: return machine.failed;
            default: return NO_SUCH;
        }
    }

    public int keep(int d, int what, int k) {
        if (!isShelf(d)) {
            return NO_SUCH;
        }
        if ((what == A_PAGE || what == INTS) && !machine.hasPage(k)) {
            return NO_SUCH;
        }
        switch (what) {
            case NOTHING:
                shelves[d].what = NOTHING;
                return 0;
            case A_PAGE:
                shelves[d].holdPage(k, machine.pages[k]);
                return 0;
            case BYTES:
                shelves[d].holdNodes(machine.workers, machine.workerCount);
                return 0;
            case INTS:
                shelves[d].holdCells(machine.pages[k]);
                return 0;
            default:
                return NO_SUCH;
        }
    }

    public int make(int d, int what, int n) {
        if (!isShelf(d) || (what != BYTES && what != INTS) || n > MOST_ELEMENTS) {
            return NO_SUCH;
        }
        if (n < 0) {
            return BELOW_ZERO;
        }
        shelves[d].holdZeros(what, n);
        return 0;
    }

    public long element(int d, int i) throws IllegalArgumentException, IllegalStateException {
        if (!isShelf(d)) {
            throw new IllegalArgumentException("no such shelf");
        }
        Shelf shelf = shelves[d];
        if (!shelf.isRow() || !within(i, 0, shelf.size - 1)) {
            throw new IllegalStateException("no such element");
        }
        return shelf.what == BYTES ? shelf.bytes[i] : shelf.ints[i];
    }

    public int copy(int d, int i, int e, int j, int n) {
        if (!isShelf(d) || !isShelf(e)) {
            return NO_SUCH;
        }
        Shelf from = shelves[d];
        Shelf to = shelves[e];
        if (from.what == NOTHING || to.what == NOTHING) {
            return NOTHING_HELD;
        }
        if (!from.isRow() || from.what != to.what) {
            return OTHER_KIND;
        }
        if (!from.hasStretch(i, n) || !to.hasStretch(j, n)) {
            return NO_PLACE;
        }
        if (from.what == BYTES) {
            System.arraycopy(from.bytes, i, to.bytes, j, n);
        } else {
            System.arraycopy(from.ints, i, to.ints, j, n);
        }
        return n;
    }

    public int weight(int d) {
        int refusal = refusalOfPageOn(d);
        return refusal != 0 ? refusal : shelves[d].heaviness();
    }

    public int toss(int d) {
        int refusal = refusalOfPageOn(d);
        if (refusal != 0) {
            return refusal;
        }
        Shelf shelf = shelves[d];
        try {
            shelf.throwFailure();
        } catch (IllegalStateException failure) {
            return shelf.number;
        }
        return NO_FAILURE;
    }

    /** 0 if a page lies on the shelf. */
    private int refusalOfPageOn(int d) {
        if (!isShelf(d)) {
            return NO_SUCH;
        }
        if (shelves[d].what == NOTHING) {
            return NOTHING_HELD;
        }
        return shelves[d].what == A_PAGE ? 0 : OTHER_KIND;
    }

    private static boolean isShelf(int d) {
        return within(d, 0, MOST_SHELVES - 1);
    }

    private static boolean ruleIsAllowed(int placing, int every, int gain) {
        return within(placing, AT_HAND, EMPTIEST) && within(every, 0, 50) && within(gain, 1, 10);
    }

    private static boolean within(int number, int least, int greatest) {
        return least <= number && number <= greatest;
    }

    /** Nodes, links and the ways over them. */
    private static final class Board {
        final int nodes;
        final int processors;
        final int room;
        final int[] price = new int[MOST_NODES * MOST_NODES];
        final int[] width = new int[MOST_NODES * MOST_NODES];
        final int[] sums = new int[MOST_NODES * MOST_NODES];
        final int[] hops = new int[MOST_NODES * MOST_NODES];

        Board(int nodes, int processors, int room) {
            this.nodes = nodes;
            this.processors = processors;
            this.room = room;
            Arrays.fill(price, 2);
            Arrays.fill(width, 2);
            measure();
        }

        boolean has(int node) {
            return within(node, 0, nodes - 1);
        }

        boolean joins(int a, int b) {
            return has(a) && has(b) && a != b;
        }

        /** One number for both directions of a link. */
        int edge(int a, int b) {
            return Math.min(a, b) * MOST_NODES + Math.max(a, b);
        }

        void setLink(int a, int b, int newPrice, int newWidth) {
            price[edge(a, b)] = newPrice;
            width[edge(a, b)] = newWidth;
            measure();
        }

        int distance(int a, int b) {
            return sums[a * MOST_NODES + b];
        }

        boolean reaches(int a, int b) {
            return sums[a * MOST_NODES + b] < UNREACHED;
        }

        /** The node behind a on the way to b. */
        int nextNode(int a, int b) {
            return hops[a * MOST_NODES + b];
        }

        private void measure() {
            for (int a = 0; a < nodes; a++) {
                for (int b = 0; b < nodes; b++) {
                    sums[a * MOST_NODES + b] = direct(a, b);
                }
            }
            for (int k = 0; k < nodes; k++) {
                shortenOver(k);
            }
            for (int a = 0; a < nodes; a++) {
                for (int b = 0; b < nodes; b++) {
                    hops[a * MOST_NODES + b] = leastHop(a, b);
                }
            }
        }

        private int direct(int a, int b) {
            if (a == b) {
                return 0;
            }
            int told = price[edge(a, b)];
            return told == 0 ? UNREACHED : told;
        }

        private void shortenOver(int k) {
            for (int a = 0; a < nodes; a++) {
                for (int b = 0; b < nodes; b++) {
                    int sum = distance(a, k) + distance(k, b);
                    if (sum < distance(a, b)) {
                        sums[a * MOST_NODES + b] = sum;
                    }
                }
            }
        }

        /** The rest of the least way is the least way from its second node, so one hop for each pair is enough. */
        private int leastHop(int a, int b) {
            for (int v = 0; v < nodes && a != b && reaches(a, b); v++) {
                if (v != a && direct(a, v) + distance(v, b) == distance(a, b)) {
                    return v;
                }
            }
            return b;
        }
    }

    /** What has gone over the links of a board, and what goes in the tick that is open. */
    private static final class Traffic {
        final Board board;
        final int[] carried = new int[MOST_NODES * MOST_NODES];
        final int[] waits = new int[MOST_NODES * MOST_NODES];
        final int[] inTick = new int[MOST_NODES * MOST_NODES];

        Traffic(Board board) {
            this.board = board;
        }

        void begin() {
            Arrays.fill(carried, 0);
            Arrays.fill(waits, 0);
            Arrays.fill(inTick, 0);
        }

        void openTick() {
            Arrays.fill(inTick, 0);
        }

        /** Whether a link of the way is full; the first such one has a wait more. */
        boolean holdsUp(int a, int b) {
            int at = a;
            for (int step = 0; step < MOST_NODES && at != b; step++) {
                int next = board.nextNode(at, b);
                int edge = board.edge(at, next);
                if (inTick[edge] >= board.width[edge]) {
                    waits[edge]++;
                    return true;
                }
                at = next;
            }
            return false;
        }

        void carry(int a, int b) {
            int at = a;
            for (int step = 0; step < MOST_NODES && at != b; step++) {
                int next = board.nextNode(at, b);
                int edge = board.edge(at, next);
                inTick[edge]++;
                carried[edge]++;
                at = next;
            }
        }
    }

    /** The accesses that a thread was told; the machine and its trial share them. */
    private static final class Script {
        final int[] pages = new int[MOST_ACCESSES];
        final int[] cells = new int[MOST_ACCESSES];
        final boolean[] writes = new boolean[MOST_ACCESSES];
        final int[] values = new int[MOST_ACCESSES];
        int told;

        int tell(int page, int cell, boolean toWrite, int value) {
            pages[told] = page;
            cells[told] = cell;
            writes[told] = toWrite;
            values[told] = value;
            told++;
            return told;
        }
    }

    /** A thread. */
    private static final class Worker {
        final Script script;
        int node;
        int gone;
        int toGo;
        int waits;
        int bill;
        int lastRead;
        boolean ended;

        Worker(Script script) {
            this.script = script;
        }

        void begin(int onNode) {
            node = onNode;
            gone = 0;
            toGo = 0;
            waits = 0;
            bill = 0;
            lastRead = 0;
            ended = false;
        }

        int left() {
            return ended ? 0 : script.told - gone;
        }

        boolean isReady() {
            return toGo == 0 && left() > 0;
        }
    }

    /** The threads of each node, in their order. */
    private static final class Queues {
        final int[] order = new int[MOST_NODES * MOST_THREADS];
        final int[] size = new int[MOST_NODES];

        void begin() {
            Arrays.fill(size, 0);
        }

        int at(int node, int i) {
            return order[node * MOST_THREADS + i];
        }

        void append(int node, int thread) {
            order[node * MOST_THREADS + size[node]] = thread;
            size[node]++;
        }

        int placeOf(int node, int thread) {
            for (int i = 0; i < size[node]; i++) {
                if (at(node, i) == thread) {
                    return i;
                }
            }
            return NOWHERE;
        }

        void drop(int node, int thread) {
            int gap = placeOf(node, thread);
            if (gap == NOWHERE) {
                return;
            }
            size[node]--;
            for (int i = gap; i < size[node]; i++) {
                order[node * MOST_THREADS + i] = at(node, i + 1);
            }
        }

        void exchange(int nodeA, int a, int nodeB, int b) {
            int placeA = placeOf(nodeA, a);
            int placeB = placeOf(nodeB, b);
            if (placeA == NOWHERE || placeB == NOWHERE) {
                return;
            }
            order[nodeA * MOST_THREADS + placeA] = b;
            order[nodeB * MOST_THREADS + placeB] = a;
        }
    }

    /** A page, wherever it lies. */
    private static final class Page {
        final int[] cells = new int[CELLS];
        /** The nodes of the latest faults, the latest one first. */
        final int[] faults = new int[MOST_FAULTS];
        int kind;
        int home = NOWHERE;
        int copies;
        int faultCount;
        int moves;
        int bill;
        boolean hidden;

        void begin(int newKind) {
            Arrays.fill(cells, 0);
            kind = newKind;
            home = NOWHERE;
            copies = 0;
            faultCount = 0;
            moves = 0;
            bill = 0;
            hidden = false;
        }

        boolean hasCopyOn(int node) {
            return (copies & (1 << node)) != 0;
        }

        /** The node where a thread on node a finds a cell. */
        int whereFor(int a, int cell, int nodes) {
            if (kind == WOVEN) {
                return (cell + home) % nodes;
            }
            return hasCopyOn(a) ? a : home;
        }

        void noteFault(int node) {
            for (int i = MOST_FAULTS - 1; i > 0; i--) {
                faults[i] = faults[i - 1];
            }
            faults[0] = node;
            faultCount = Math.min(faultCount + 1, MOST_FAULTS);
        }

        /** The least of the nodes that stand in the faults most often. */
        int wanted() {
            int wanted = home;
            int most = 0;
            for (int node = 0; node < MOST_NODES; node++) {
                int often = faultsOf(node);
                if (often > most) {
                    most = often;
                    wanted = node;
                }
            }
            return wanted;
        }

        private int faultsOf(int node) {
            int often = 0;
            for (int i = 0; i < faultCount; i++) {
                if (faults[i] == node) {
                    often++;
                }
            }
            return often;
        }

        /** How much nearer its faults would have been to another node; 0 if that can't be told. */
        int savingAt(int wanted, Board board) {
            int saving = 0;
            for (int i = 0; i < faultCount; i++) {
                if (!board.reaches(faults[i], home) || !board.reaches(faults[i], wanted)) {
                    return 0;
                }
                saving += board.distance(faults[i], home) - board.distance(faults[i], wanted);
            }
            return saving;
        }
    }

    /** What can be chosen about a machine. */
    private static final class Rules {
        int placing = AT_HAND;
        int every = 0;
        int gain = 1;
        int faultPrice = 2;
        int movePrice = 6;

        void choose(int newPlacing, int newEvery, int newGain) {
            placing = newPlacing;
            every = newEvery;
            gain = newGain;
        }

        void setPrices(int newFaultPrice, int newMovePrice) {
            faultPrice = newFaultPrice;
            movePrice = newMovePrice;
        }
    }

    /** The access that is being tried; one object serves all of them. */
    private static final class Attempt {
        int thread;
        int node;
        int page;
        int cell;
        boolean writes;
        int value;
        int where;
        int cost;
        boolean faulted;
        boolean moved;

        void begin(int newThread, Worker worker) {
            Script script = worker.script;
            thread = newThread;
            node = worker.node;
            page = script.pages[worker.gone];
            cell = script.cells[worker.gone];
            writes = script.writes[worker.gone];
            value = script.values[worker.gone];
            where = NOWHERE;
            cost = 0;
            faulted = false;
            moved = false;
        }
    }

    /** The first accesses that went, and what can be told of them when all is known. */
    private static final class Journal {
        static final int TICK = 0;
        static final int THREAD = 1;
        static final int NODE = 2;
        static final int PAGE = 3;
        static final int CELL = 4;
        static final int WROTE = 5;
        static final int WHERE = 6;
        static final int COST = 7;
        static final int FAULTED = 8;
        static final int MOVED = 9;
        static final int VALUE = 10;
        static final int FIELDS = 11;

        final int capacity;
        final int[] entries;
        int size;
        /** The least sum up to now, for each node on which the page may lie now. */
        private final int[] sums = new int[MOST_NODES];
        private final int[] memory = new int[MOST_PAGES * CELLS];

        Journal(int capacity) {
            this.capacity = capacity;
            entries = new int[capacity * FIELDS];
        }

        int entry(int i, int what) {
            return entries[i * FIELDS + what];
        }

        void note(int tick, Attempt went) {
            if (size == capacity) {
                return;
            }
            int at = size * FIELDS;
            entries[at + TICK] = tick;
            entries[at + THREAD] = went.thread;
            entries[at + NODE] = went.node;
            entries[at + PAGE] = went.page;
            entries[at + CELL] = went.cell;
            entries[at + WROTE] = went.writes ? 1 : 0;
            entries[at + WHERE] = went.where;
            entries[at + COST] = went.cost;
            entries[at + FAULTED] = went.faulted ? 1 : 0;
            entries[at + MOVED] = went.moved ? 1 : 0;
            entries[at + VALUE] = went.value;
            size++;
        }

        int costAboveNearest(int page) {
            int above = 0;
            for (int i = 0; i < size; i++) {
                if (entry(i, PAGE) == page) {
                    above += entry(i, COST) - 1;
                }
            }
            return above;
        }

        /** BEST of a page: IMPOSSIBLE, if there is none. */
        int leastSum(int page, Board board, int movePrice) {
            Arrays.fill(sums, 0);
            for (int i = 0; i < size; i++) {
                if (entry(i, PAGE) == page) {
                    addAccess(entry(i, NODE), board, movePrice);
                }
            }
            return leastOf(board.nodes);
        }

        /** Before the first access all sums are 0, so no change of place is paid for there. */
        private void addAccess(int node, Board board, int movePrice) {
            int afterMove = leastOf(board.nodes) + movePrice;
            for (int home = 0; home < board.nodes; home++) {
                int before = Math.min(sums[home], afterMove);
                boolean can = board.reaches(node, home) && before < IMPOSSIBLE;
                sums[home] = can ? before + 1 + 2 * board.distance(node, home) : IMPOSSIBLE;
            }
        }

        private int leastOf(int nodes) {
            int least = IMPOSSIBLE;
            for (int home = 0; home < nodes; home++) {
                least = Math.min(least, sums[home]);
            }
            return least;
        }

        /** Whether a plain memory that does the accesses in order ends with the cells of the pages. */
        boolean endsAlike(Page[] pages, int pageCount) {
            replay();
            for (int p = 0; p < pageCount; p++) {
                for (int c = 0; c < CELLS; c++) {
                    if (memory[p * CELLS + c] != pages[p].cells[c]) {
                        return false;
                    }
                }
            }
            return true;
        }

        private void replay() {
            Arrays.fill(memory, 0);
            for (int i = 0; i < size; i++) {
                if (entry(i, WROTE) == 1) {
                    memory[entry(i, PAGE) * CELLS + entry(i, CELL)] = entry(i, VALUE);
                }
            }
        }
    }

    /** Pages, threads and what happens to them, tick by tick. */
    private static final class Machine {
        final Board board;
        final Traffic traffic;
        final Queues queues = new Queues();
        final Rules rules = new Rules();
        final Journal journal;
        final Attempt attempt = new Attempt();
        final Page[] pages = new Page[MOST_PAGES];
        final Worker[] workers = new Worker[MOST_THREADS];
        final int[] taken = new int[MOST_NODES];
        final int[] nodeBills = new int[MOST_NODES];
        int pageCount;
        int workerCount;
        /** How many pages were placed by turns. */
        int turns;
        int tick = 1;
        int went;
        int cost;
        int faults;
        int moves;
        int failed;

        Machine(Board board, Script[] scripts, int logged) {
            this.board = board;
            traffic = new Traffic(board);
            journal = new Journal(logged);
            for (int p = 0; p < MOST_PAGES; p++) {
                pages[p] = new Page();
            }
            for (int t = 0; t < MOST_THREADS; t++) {
                workers[t] = new Worker(scripts[t]);
            }
        }

        /** Goes back to the beginning, with the pages, threads and prices that another machine has now. */
        void beginLike(Machine model) {
            traffic.begin();
            queues.begin();
            Arrays.fill(taken, 0);
            Arrays.fill(nodeBills, 0);
            pageCount = 0;
            workerCount = 0;
            turns = 0;
            tick = 1;
            went = 0;
            cost = 0;
            faults = 0;
            moves = 0;
            failed = 0;
            for (int p = 0; p < model.pageCount; p++) {
                addPage(model.pages[p].kind);
            }
            for (int t = 0; t < model.workerCount; t++) {
                addWorker(model.workers[t].node);
            }
            rules.setPrices(model.rules.faultPrice, model.rules.movePrice);
        }

        boolean hasPage(int page) {
            return within(page, 0, pageCount - 1);
        }

        boolean hasWorker(int thread) {
            return within(thread, 0, workerCount - 1);
        }

        int addPage(int kind) {
            int number = pageCount;
            pages[number].begin(kind);
            pageCount++;
            return number;
        }

        int addWorker(int node) {
            int number = workerCount;
            workers[number].begin(node);
            queues.append(node, number);
            workerCount++;
            return number;
        }

        int freeProcessors(int node) {
            int free = board.processors;
            for (int t = 0; t < workerCount; t++) {
                if (workers[t].node == node && workers[t].toGo > 0) {
                    free--;
                }
            }
            return free;
        }

        boolean hasRoom(int node) {
            return taken[node] < board.room;
        }

        boolean fits(Page page, int node) {
            return page.kind == WOVEN ? allHaveRoom() : hasRoom(node);
        }

        private boolean allHaveRoom() {
            for (int node = 0; node < board.nodes; node++) {
                if (taken[node] >= board.room) {
                    return false;
                }
            }
            return true;
        }

        void lay(Page page, int node) {
            page.home = node;
            if (page.kind != WOVEN) {
                taken[node]++;
                return;
            }
            for (int k = 0; k < board.nodes; k++) {
                taken[k]++;
            }
        }

        void doTick() {
            traffic.openTick();
            for (int node = 0; node < board.nodes; node++) {
                serve(node);
            }
            finishAccesses();
            if (rules.every > 0 && tick % rules.every == 0) {
                hidePages();
            }
            tick++;
        }

        /** One pass is enough: while a node is served no thread that was passed over becomes ready. */
        private void serve(int node) {
            int free = freeProcessors(node);
            for (int i = 0; i < queues.size[node] && free > 0; i++) {
                int thread = queues.at(node, i);
                if (workers[thread].isReady() && goes(thread)) {
                    free--;
                }
            }
        }

        private void finishAccesses() {
            for (int t = 0; t < workerCount; t++) {
                Worker worker = workers[t];
                if (worker.toGo > 0) {
                    worker.toGo--;
                    if (worker.toGo == 0) {
                        queues.drop(worker.node, t);
                        queues.append(worker.node, t);
                    }
                }
            }
        }

        private void hidePages() {
            for (int p = 0; p < pageCount; p++) {
                if (pages[p].home != NOWHERE) {
                    pages[p].hidden = true;
                }
            }
        }

        /** Tries the next access of a thread that is ready. */
        private boolean goes(int thread) {
            Worker worker = workers[thread];
            attempt.begin(thread, worker);
            if (!canBeReached()) {
                worker.ended = true;
                failed++;
                return false;
            }
            if (traffic.holdsUp(attempt.node, attempt.where)) {
                worker.waits++;
                return false;
            }
            Page page = pages[attempt.page];
            traffic.carry(attempt.node, attempt.where);
            attempt.cost = 1 + 2 * board.distance(attempt.node, attempt.where);
            if (page.hidden) {
                takeFault(page);
            }
            perform(page, worker);
            return true;
        }

        /** Finds where the cell lies, and places its page if it lies nowhere. */
        private boolean canBeReached() {
            if (!hasPage(attempt.page) || !within(attempt.cell, 0, CELLS - 1)) {
                return false;
            }
            Page page = pages[attempt.page];
            if (page.home == NOWHERE && !placeByRule(page)) {
                return false;
            }
            attempt.where = page.whereFor(attempt.node, attempt.cell, board.nodes);
            return board.reaches(attempt.node, attempt.where);
        }

        private boolean placeByRule(Page page) {
            int node = page.kind == WOVEN ? firstChoice() : nextWithRoom(firstChoice());
            if (!fits(page, node)) {
                return false;
            }
            lay(page, node);
            if (rules.placing == BY_TURNS) {
                turns++;
            }
            return true;
        }

        private int firstChoice() {
            switch (rules.placing) {
                case BY_TURNS: return turns % board.nodes;
                case EMPTIEST: return emptiest();
                default: return attempt.node;
            }
        }

        private int emptiest() {
            int emptiest = 0;
            for (int node = 1; node < board.nodes; node++) {
                if (taken[node] < taken[emptiest]) {
                    emptiest = node;
                }
            }
            return emptiest;
        }

        /** The node itself, if none has room. */
        private int nextWithRoom(int node) {
            for (int step = 0; step < board.nodes; step++) {
                int next = (node + step) % board.nodes;
                if (hasRoom(next)) {
                    return next;
                }
            }
            return node;
        }

        private void perform(Page page, Worker worker) {
            if (attempt.writes) {
                page.cells[attempt.cell] = attempt.value;
                attempt.cost += endCopies(page);
            } else {
                worker.lastRead = page.cells[attempt.cell];
                attempt.cost += bringCopy(page);
            }
            worker.gone++;
            worker.toGo = attempt.cost;
            enterInBills(page, worker);
        }

        private void takeFault(Page page) {
            page.hidden = false;
            page.noteFault(attempt.node);
            attempt.faulted = true;
            attempt.cost += rules.faultPrice;
            faults++;
            if (page.kind == PLAIN) {
                moveIfItPays(page);
            }
        }

        private void moveIfItPays(Page page) {
            int wanted = page.wanted();
            if (wanted == page.home || !hasRoom(wanted)) {
                return;
            }
            if (page.savingAt(wanted, board) * rules.gain <= rules.movePrice) {
                return;
            }
            taken[page.home]--;
            taken[wanted]++;
            page.home = wanted;
            page.moves++;
            attempt.moved = true;
            attempt.cost += rules.movePrice;
            moves++;
        }

        /** What it costs: 1 if a copy of the page comes to the node of the thread that reads it. */
        private int bringCopy(Page page) {
            int node = attempt.node;
            if (page.kind != COPIED || page.home == node || page.hasCopyOn(node) || !hasRoom(node)) {
                return 0;
            }
            page.copies |= 1 << node;
            taken[node]++;
            return 1;
        }

        /** What it costs: 1 for each copy, as the old place ends where a copy becomes the new one. */
        private int endCopies(Page page) {
            int ended = Integer.bitCount(page.copies);
            if (page.hasCopyOn(attempt.node)) {
                page.copies |= 1 << page.home;
                page.copies &= ~(1 << attempt.node);
                page.home = attempt.node;
            }
            for (int node = 0; node < board.nodes; node++) {
                if (page.hasCopyOn(node)) {
                    taken[node]--;
                }
            }
            page.copies = 0;
            return ended;
        }

        private void enterInBills(Page page, Worker worker) {
            worker.bill += attempt.cost;
            page.bill += attempt.cost;
            nodeBills[attempt.node] += attempt.cost;
            cost += attempt.cost;
            went++;
            journal.note(tick, attempt);
        }
    }

    /** A shelf, with room for all that it may hold, so that nothing is made anew when it gets something. */
    private static final class Shelf {
        final byte[] bytes = new byte[MOST_ELEMENTS];
        final int[] ints = new int[MOST_ELEMENTS];
        int what = NOTHING;
        int size;
        int number;
        int kind;
        int copies;
        int home;

        void holdPage(int newNumber, Page page) {
            what = A_PAGE;
            number = newNumber;
            kind = page.kind;
            copies = Integer.bitCount(page.copies);
            home = page.home;
        }

        void holdNodes(Worker[] workers, int workerCount) {
            what = BYTES;
            size = workerCount;
            for (int t = 0; t < workerCount; t++) {
                bytes[t] = (byte) workers[t].node;
            }
        }

        void holdCells(Page page) {
            what = INTS;
            size = CELLS;
            System.arraycopy(page.cells, 0, ints, 0, CELLS);
        }

        void holdZeros(int newWhat, int newSize) {
            what = newWhat;
            size = newSize;
            Arrays.fill(bytes, (byte) 0);
            Arrays.fill(ints, 0);
        }

        boolean isRow() {
            return what == BYTES || what == INTS;
        }

        boolean hasStretch(int from, int length) {
            return from >= 0 && length >= 0 && from <= size - length;
        }

        int heaviness() {
            int plain = number + 1;
            switch (kind) {
                case COPIED: return plain + 10 * copies;
                case WOVEN: return 2 * plain + (home == NOWHERE ? 0 : home);
                case PINNED: return plain + 300;
                default: return plain;
            }
        }

        /** Comes back only for a plain page. */
        void throwFailure() {
            if (kind != PLAIN) {
                throw new IllegalStateException("the failure of a page");
            }
        }
    }
}
