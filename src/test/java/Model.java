import java.util.ArrayList;
import java.util.Arrays;
import java.util.Collections;
import java.util.Comparator;
import java.util.HashMap;
import java.util.List;
import java.util.Map;
import java.util.TreeMap;
import java.util.TreeSet;

/** The document once more, slowly and with the library's collections, to compare the program with. */
final class Model {
    static final class P {
        int kind;
        Integer home;
        TreeSet<Integer> copies = new TreeSet<>();
        boolean hidden;
        List<Integer> faults = new ArrayList<>();
        int moves;
        int bill;
        int[] cells = new int[4];
        int number;
    }

    record A(int page, int cell, boolean writes, int v) {
    }

    static final class T {
        int node;
        List<A> told = new ArrayList<>();
        int went;
        int toGo;
        int waits;
        int bill;
        int read;
        boolean ended;

        int left() {
            return ended ? 0 : told.size() - went;
        }
    }

    final int n;
    final int processors;
    final int room;
    Map<List<Integer>, int[]> links = new HashMap<>();
    Map<List<Integer>, int[]> linkCounts = new HashMap<>();
    Map<List<Integer>, Integer> inTick = new HashMap<>();
    List<P> pages = new ArrayList<>();
    List<T> threads = new ArrayList<>();
    List<List<Integer>> queues = new ArrayList<>();
    int[] nodeBills = new int[4];
    int placing = 0;
    int every = 0;
    int gain = 1;
    int faultPrice = 2;
    int movePrice = 6;
    int turns = 0;
    int tick = 1;
    int went = 0;
    int cost = 0;
    int faults = 0;
    int moves = 0;
    int failed = 0;
    List<int[]> log = new ArrayList<>();
    Object[] shelves = new Object[8];

    Model(int nodes, int processors, int room) {
        n = 2 + ((nodes % 3) + 3) % 3;
        this.processors = 1 + ((processors % 3) + 3) % 3;
        this.room = 4 + ((room % 9) + 9) % 9;
        for (int a = 0; a < n; a++) {
            queues.add(new ArrayList<>());
            for (int b = a + 1; b < n; b++) {
                links.put(List.of(a, b), new int[] {2, 2});
                linkCounts.put(List.of(a, b), new int[2]);
            }
        }
    }

    static List<Integer> pair(int a, int b) {
        return List.of(Math.min(a, b), Math.max(a, b));
    }

    boolean isNode(int a) {
        return a >= 0 && a < n;
    }

    boolean isPage(int p) {
        return p >= 0 && p < pages.size();
    }

    boolean isThread(int t) {
        return t >= 0 && t < threads.size();
    }

    /** All ways without a loop, the best one by sum and then by its nodes; null if there is none. */
    List<Integer> bestWay(int a, int b) {
        List<List<Integer>> all = new ArrayList<>();
        extend(new ArrayList<>(List.of(a)), b, all);
        Comparator<List<Integer>> bySum = Comparator.comparingInt(this::sumOf);
        Comparator<List<Integer>> byNodes = Comparator.comparing(List::toString);
        return all.stream().min(bySum.thenComparing(byNodes)).orElse(null);
    }

    private void extend(List<Integer> sofar, int b, List<List<Integer>> all) {
        int last = sofar.get(sofar.size() - 1);
        if (last == b) {
            all.add(new ArrayList<>(sofar));
            return;
        }
        for (int v = 0; v < n; v++) {
            if (!sofar.contains(v) && links.get(pair(last, v))[0] > 0) {
                sofar.add(v);
                extend(sofar, b, all);
                sofar.remove(sofar.size() - 1);
            }
        }
    }

    int sumOf(List<Integer> way) {
        int sum = 0;
        for (int i = 1; i < way.size(); i++) {
            sum += links.get(pair(way.get(i - 1), way.get(i)))[0];
        }
        return sum;
    }

    /** Null without a way. */
    Integer farOf(int a, int b) {
        List<Integer> way = bestWay(a, b);
        return way == null ? null : Integer.valueOf(sumOf(way));
    }

    /** Counted from the pages each time. */
    int taken(int node) {
        int taken = 0;
        for (P p : pages) {
            if (p.home == null) {
                continue;
            }
            if (p.kind == 2 || p.home == node) {
                taken++;
            }
            if (p.copies.contains(node)) {
                taken++;
            }
        }
        return taken;
    }

    boolean free(int node) {
        return taken(node) < room;
    }

    boolean allFree() {
        for (int k = 0; k < n; k++) {
            if (!free(k)) {
                return false;
            }
        }
        return true;
    }

    int link(int a, int b, int price, int width) {
        if (!isNode(a) || !isNode(b) || a == b || price < 0 || price > 9 || width < 1 || width > 4) {
            return -1;
        }
        if (tick != 1) {
            return -3;
        }
        return links.put(pair(a, b), new int[] {price, width})[0];
    }

    int far(int a, int b) {
        if (!isNode(a) || !isNode(b)) {
            return -1;
        }
        Integer f = farOf(a, b);
        return f == null ? -2 : f;
    }

    int way(int a, int b, int i) {
        if (!isNode(a) || !isNode(b) || i < 0) {
            return -1;
        }
        List<Integer> w = bestWay(a, b);
        return w == null ? -2 : i < w.size() ? w.get(i) : -1;
    }

    int page(int kind) {
        if (kind < 0 || kind > 3) {
            return -1;
        }
        if (pages.size() == 20) {
            return -2;
        }
        P p = new P();
        p.kind = kind;
        p.number = pages.size();
        pages.add(p);
        return p.number;
    }

    int thread(int node) {
        if (!isNode(node)) {
            return -1;
        }
        if (threads.size() == 10) {
            return -2;
        }
        T t = new T();
        t.node = node;
        threads.add(t);
        queues.get(node).add(threads.size() - 1);
        return threads.size() - 1;
    }

    int access(int thread, int page, int cell, boolean writes, int v) {
        if (!isThread(thread) || page < 0 || page > 30 || cell < 0 || cell > 7 || threads.get(thread).ended) {
            return -1;
        }
        List<A> told = threads.get(thread).told;
        if (told.size() == 60) {
            return -2;
        }
        told.add(new A(page, cell, writes, v));
        return told.size();
    }

    static boolean ruleOk(int placing, int every, int gain) {
        return placing >= 0 && placing <= 2 && every >= 0 && every <= 50 && gain >= 1 && gain <= 10;
    }

    int rule(int placing, int every, int gain) {
        if (!ruleOk(placing, every, gain)) {
            return -1;
        }
        this.placing = placing;
        this.every = every;
        this.gain = gain;
        return 0;
    }

    int prices(int fault, int move) {
        if (fault < 0 || fault > 20 || move < 0 || move > 50) {
            return -1;
        }
        faultPrice = fault;
        movePrice = move;
        return 0;
    }

    int place(int page, int node) {
        if (!isPage(page) || !isNode(node)) {
            return -1;
        }
        P p = pages.get(page);
        if (p.kind == 2 ? !allFree() : !free(node)) {
            return -2;
        }
        if (p.home != null) {
            return -3;
        }
        p.home = node;
        return 0;
    }

    int settle(int thread, int node) {
        if (!isThread(thread) || !isNode(node)) {
            return -1;
        }
        T t = threads.get(thread);
        if (t.toGo > 0) {
            return -3;
        }
        int before = t.node;
        queues.get(before).remove(Integer.valueOf(thread));
        queues.get(node).add(thread);
        t.node = node;
        return before;
    }

    int swap(int a, int b) {
        if (!isThread(a) || !isThread(b) || a == b) {
            return -1;
        }
        T s = threads.get(a);
        T t = threads.get(b);
        if (s.toGo > 0 || t.toGo > 0) {
            return -3;
        }
        int i = queues.get(s.node).indexOf(a);
        int j = queues.get(t.node).indexOf(b);
        queues.get(s.node).set(i, b);
        queues.get(t.node).set(j, a);
        int node = s.node;
        s.node = t.node;
        t.node = node;
        return 0;
    }

    int freeProcessors(int node) {
        int free = processors;
        for (int t : queues.get(node)) {
            free -= threads.get(t).toGo > 0 ? 1 : 0;
        }
        return free;
    }

    int run(int ticks) {
        if (ticks < 1 || ticks > 200) {
            return -1;
        }
        int before = went;
        for (int i = 0; i < ticks; i++) {
            oneTick();
        }
        return went - before;
    }

    private void oneTick() {
        inTick.clear();
        TreeSet<Integer> tried = new TreeSet<>();
        for (int node = 0; node < n; node++) {
            while (freeProcessors(node) > 0) {
                Integer next = null;
                for (int t : queues.get(node)) {
                    T th = threads.get(t);
                    if (next == null && th.left() > 0 && th.toGo == 0 && !tried.contains(t)) {
                        next = t;
                    }
                }
                if (next == null) {
                    break;
                }
                tried.add(next);
                attempt(next);
            }
        }
        for (int t = 0; t < threads.size(); t++) {
            T th = threads.get(t);
            if (th.toGo > 0 && --th.toGo == 0) {
                queues.get(th.node).remove(Integer.valueOf(t));
                queues.get(th.node).add(t);
            }
        }
        if (every > 0 && tick % every == 0) {
            pages.stream().filter(p -> p.home != null).forEach(p -> p.hidden = true);
        }
        tick++;
    }

    private void fails(T t) {
        t.ended = true;
        failed++;
    }

    /** Null if it fails. */
    private Integer choose(P p, int a) {
        int node = a;
        if (placing == 1) {
            node = turns % n;
        } else if (placing == 2) {
            node = 0;
            for (int k = 0; k < n; k++) {
                node = taken(k) < taken(node) ? k : node;
            }
        }
        if (p.kind == 2) {
            return allFree() ? node : null;
        }
        for (int i = 0; i < n; i++) {
            if (free((node + i) % n)) {
                return (node + i) % n;
            }
        }
        return null;
    }

    private void attempt(int number) {
        T t = threads.get(number);
        A access = t.told.get(t.went);
        int a = t.node;
        if (!isPage(access.page) || access.cell > 3) {
            fails(t);
            return;
        }
        P p = pages.get(access.page);
        if (p.home == null) {
            p.home = choose(p, a);
            if (p.home == null) {
                fails(t);
                return;
            }
            turns += placing == 1 ? 1 : 0;
        }
        int where = p.kind == 2 ? (access.cell + p.home) % n : p.copies.contains(a) ? a : p.home;
        List<Integer> way = bestWay(a, where);
        if (way == null) {
            fails(t);
            return;
        }
        for (int i = 1; i < way.size(); i++) {
            List<Integer> link = pair(way.get(i - 1), way.get(i));
            if (inTick.getOrDefault(link, 0) >= links.get(link)[1]) {
                t.waits++;
                linkCounts.get(link)[1]++;
                return;
            }
        }
        for (int i = 1; i < way.size(); i++) {
            List<Integer> link = pair(way.get(i - 1), way.get(i));
            inTick.merge(link, 1, Integer::sum);
            linkCounts.get(link)[0]++;
        }
        int price = 1 + 2 * sumOf(way);
        boolean faulted = p.hidden;
        boolean moved = false;
        if (faulted) {
            price += faultPrice;
            faults++;
            p.hidden = false;
            p.faults.add(0, a);
            while (p.faults.size() > 4) {
                p.faults.remove(4);
            }
            if (p.kind == 0 && pays(p)) {
                moved = true;
                price += movePrice;
                p.home = wanted(p);
                p.moves++;
                moves++;
            }
        }
        price += access.writes ? write(p, access, a) : read(p, access, t);
        t.went++;
        t.toGo = price;
        t.bill += price;
        p.bill += price;
        nodeBills[a] += price;
        cost += price;
        went++;
        if (log.size() < 300) {
            log.add(new int[] {tick, number, a, access.page, access.cell, access.writes ? 1 : 0, where, price,
                faulted ? 1 : 0, moved ? 1 : 0, access.v});
        }
    }

    private int read(P p, A access, T t) {
        t.read = p.cells[access.cell];
        if (p.kind == 1 && p.home != t.node && !p.copies.contains(t.node) && free(t.node)) {
            p.copies.add(t.node);
            return 1;
        }
        return 0;
    }

    private int write(P p, A access, int a) {
        p.cells[access.cell] = access.v;
        int price = 0;
        for (int k : new ArrayList<>(p.copies)) {
            p.copies.remove(k);
            if (k == a) {
                p.home = a;
            }
            // An ended copy costs 1; where a copy becomes the place the old place ends for 1.
            price++;
        }
        return price;
    }

    private int wanted(P p) {
        TreeMap<Integer, Integer> often = new TreeMap<>();
        p.faults.forEach(f -> often.merge(f, 1, Integer::sum));
        int most = Collections.max(often.values());
        for (int node : often.keySet()) {
            if (often.get(node) == most) {
                return node;
            }
        }
        throw new IllegalStateException();
    }

    private boolean pays(P p) {
        int to = wanted(p);
        if (to == p.home || !free(to)) {
            return false;
        }
        int sum = 0;
        for (int f : p.faults) {
            if (farOf(f, p.home) == null || farOf(f, to) == null) {
                return false;
            }
            sum += farOf(f, p.home) - farOf(f, to);
        }
        return sum * gain > movePrice;
    }

    int look(int page, int what) {
        if (!isPage(page) || what < 0 || what > 6) {
            return -1;
        }
        P p = pages.get(page);
        int bits = 0;
        for (int k : p.copies) {
            bits += 1 << k;
        }
        return new int[] {p.kind, p.home == null ? -2 : p.home, bits, p.hidden ? 1 : 0, p.faults.size(), p.moves,
            p.bill}[what];
    }

    int fault(int page, int i) {
        return isPage(page) && i >= 0 && i < pages.get(page).faults.size() ? pages.get(page).faults.get(i) : -1;
    }

    String cell(int page, int cell) {
        return isPage(page) && cell >= 0 && cell < 4 ? "" + pages.get(page).cells[cell] : "IllegalArgumentException";
    }

    int about(int thread, int what) {
        if (!isThread(thread) || what < 0 || what > 7) {
            return -1;
        }
        T t = threads.get(thread);
        return new int[] {t.node, t.went, t.left(), t.toGo, t.waits, t.ended ? 1 : 0, t.bill,
            queues.get(t.node).indexOf(thread)}[what];
    }

    String read(int thread) {
        return isThread(thread) ? "" + threads.get(thread).read : "IllegalArgumentException";
    }

    int node(int node, int what) {
        if (!isNode(node) || what < 0 || what > 3) {
            return -1;
        }
        return new int[] {taken(node), nodeBills[node], freeProcessors(node), queues.get(node).size()}[what];
    }

    int linked(int a, int b, int what) {
        if (!isNode(a) || !isNode(b) || a == b || what < 0 || what > 3) {
            return -1;
        }
        return what < 2 ? links.get(pair(a, b))[what] : linkCounts.get(pair(a, b))[what - 2];
    }

    int log(int i, int what) {
        return i >= 0 && i < log.size() && what >= 0 && what <= 9 ? log.get(i)[what] : -1;
    }

    int best(int page) {
        if (!isPage(page)) {
            return -1;
        }
        List<Integer> nodes = log.stream().filter(e -> e[3] == page).map(e -> e[2]).toList();
        int least = Integer.MAX_VALUE;
        for (int home = 0; home < n; home++) {
            least = Math.min(least, from(nodes, 0, home, new int[nodes.size() * n]));
        }
        return least >= 1_000_000 ? -2 : least;
    }

    /** The least sum of the accesses from i on, if the page is at home at that one. */
    private int from(List<Integer> nodes, int i, int home, int[] known) {
        if (i == nodes.size()) {
            return 0;
        }
        if (known[i * n + home] != 0) {
            return known[i * n + home];
        }
        Integer f = farOf(nodes.get(i), home);
        int least = 1_000_000;
        for (int next = 0; next < n && f != null; next++) {
            int change = next != home && i + 1 < nodes.size() ? movePrice : 0;
            least = Math.min(least, 1 + 2 * f + change + from(nodes, i + 1, next, known));
        }
        known[i * n + home] = least;
        return least;
    }

    int gap(int page) {
        return isPage(page) ? log.stream().filter(e -> e[3] == page).mapToInt(e -> e[7] - 1).sum() : -1;
    }

    int other(int placing, int every, int gain, int ticks) {
        if (!ruleOk(placing, every, gain) || ticks < 1 || ticks > 200) {
            return -1;
        }
        Model m = new Model(n - 2, processors - 1, room - 4);
        links.forEach((k, v) -> m.links.put(k, v));
        pages.forEach(p -> m.page(p.kind));
        for (T t : threads) {
            int number = m.thread(t.node);
            m.threads.get(number).told.addAll(t.told);
        }
        m.rule(placing, every, gain);
        m.prices(faultPrice, movePrice);
        m.run(ticks);
        return m.cost;
    }

    int same() {
        if (went > 300) {
            return -2;
        }
        int[][] memory = new int[pages.size()][4];
        log.stream().filter(e -> e[5] == 1).forEach(e -> memory[e[3]][e[4]] = e[10]);
        return pages.stream().allMatch(p -> Arrays.equals(p.cells, memory[p.number])) ? 1 : 0;
    }

    int count(int what) {
        int[] all = {tick, n, processors, room, pages.size(), threads.size(), went, cost, faults, moves, failed};
        return what >= 0 && what < all.length ? all[what] : -1;
    }

    int keep(int d, int what, int k) {
        if (d < 0 || d > 7 || what < 0 || what > 4 || what == 2 || (what == 1 || what == 4) && !isPage(k)) {
            return -1;
        }
        shelves[d] = null;
        if (what == 1) {
            P was = pages.get(k);
            P p = new P();
            p.kind = was.kind;
            p.number = k;
            p.home = was.home;
            p.copies.addAll(was.copies);
            shelves[d] = p;
        } else if (what == 3) {
            byte[] row = new byte[threads.size()];
            for (int t = 0; t < row.length; t++) {
                row[t] = (byte) threads.get(t).node;
            }
            shelves[d] = row;
        } else if (what == 4) {
            shelves[d] = pages.get(k).cells.clone();
        }
        return 0;
    }

    int make(int d, int what, int size) {
        if (d < 0 || d > 7 || what < 3 || what > 4 || size > 60) {
            return -1;
        }
        if (size < 0) {
            return -14;
        }
        shelves[d] = what == 3 ? (Object) new byte[size] : new int[size];
        return 0;
    }

    String element(int d, int i) {
        if (d < 0 || d > 7) {
            return "IllegalArgumentException";
        }
        if (shelves[d] instanceof byte[] b && i >= 0 && i < b.length) {
            return "" + b[i];
        }
        if (shelves[d] instanceof int[] w && i >= 0 && i < w.length) {
            return "" + w[i];
        }
        return "IllegalStateException";
    }

    int copy(int d, int i, int e, int j, int size) {
        if (d < 0 || d > 7 || e < 0 || e > 7) {
            return -1;
        }
        Object from = shelves[d];
        Object to = shelves[e];
        if (from == null || to == null) {
            return -11;
        }
        if (from instanceof P || from.getClass() != to.getClass()) {
            return -12;
        }
        // This may throw here: it is the library's own view of what can be copied.
        try {
            System.arraycopy(from, i, to, j, size);
        } catch (IndexOutOfBoundsException beyond) {
            return -13;
        }
        return size;
    }

    private int pageOn(int d) {
        return d < 0 || d > 7 ? -1 : shelves[d] == null ? -11 : shelves[d] instanceof P ? 0 : -12;
    }

    int weight(int d) {
        if (pageOn(d) != 0) {
            return pageOn(d);
        }
        P p = (P) shelves[d];
        int base = p.home == null ? 0 : p.home;
        int plain = p.number + 1;
        return new int[] {plain, plain + 10 * p.copies.size(), 2 * plain + base, plain + 300}[p.kind];
    }

    int toss(int d) {
        if (pageOn(d) != 0) {
            return pageOn(d);
        }
        P p = (P) shelves[d];
        return p.kind == 0 ? -15 : p.number;
    }
}
