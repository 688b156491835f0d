import java.util.Random;

/** Long runs of mixed calls, right and wrong ones: each answer is compared with the model's, and all that can be asked. */
public final class ModelTest {
    private static final int RUNS = 600;
    private static final int CALLS = 250;
    private static final int[] EXTREMES = {-1, -2, 9, 31, 61, 201, Integer.MAX_VALUE, Integer.MIN_VALUE};

    private static final Due due = new Due();
    private static Random random;
    private static FarCells x;
    private static Model m;
    private static String text;

    public static void main(String[] args) {
        for (int run = 0; run < RUNS && due.wrongs() < 20; run++) {
            random = new Random(run);
            int nodes = random.nextInt();
            int processors = random.nextInt();
            // Half of the machines have so little room that pages soon have none.
            int room = random.nextBoolean() ? random.nextInt(2) : random.nextInt();
            x = new FarCells(nodes, processors, room);
            m = new Model(nodes, processors, room);
            start(run);
            for (int i = 0; i < CALLS && due.wrongs() < 20; i++) {
                text = "";
                String answers = oneCall(random.nextInt(40));
                compare("run " + run + ", call " + i + ": " + text, answers);
                if (i % 25 == 24) {
                    compareAll("run " + run + ", behind call " + i);
                }
            }
        }
        due.end();
    }

    /** Links, pages, threads and many accesses, so that the run has something to do. */
    private static void start(int run) {
        int links = random.nextInt(5);
        for (int i = 0; i < links; i++) {
            text = "";
            compare("link", changing(1));
        }
        int pages = 1 + random.nextInt(12);
        int threads = 1 + random.nextInt(10);
        for (int p = 0; p < pages; p++) {
            int kind = random.nextInt(4);
            due.is("page", x.page(kind), m.page(kind));
        }
        for (int t = 0; t < threads; t++) {
            int node = random.nextInt(m.n);
            due.is("thread", x.thread(node), m.thread(node));
        }
        int gain = 1 + random.nextInt(10);
        int every = random.nextInt(3) == 0 ? 0 : 1 + random.nextInt(6);
        int placing = random.nextInt(3);
        due.is("rule", x.rule(placing, every, gain), m.rule(placing, every, gain));
        for (int i = 0; i < random.nextInt(400); i++) {
            tellAccess(pages, threads, run % 3 == 0);
        }
    }

    private static void tellAccess(int pages, int threads, boolean wrongToo) {
        int t = random.nextInt(threads);
        int p = random.nextInt(wrongToo && random.nextInt(20) == 0 ? 31 : pages);
        int c = random.nextInt(wrongToo && random.nextInt(40) == 0 ? 8 : 4);
        boolean w = random.nextInt(3) == 0;
        int v = random.nextInt();
        due.is("access", x.access(t, p, c, w, v), m.access(t, p, c, w, v));
    }

    /** A number below a bound, or now and then one that may be out of range. */
    private static int pick(int bound) {
        int k = random.nextInt(25) == 0 ? EXTREMES[random.nextInt(EXTREMES.length)] : random.nextInt(bound);
        text += " " + k;
        return k;
    }

    /** Two answers with a bar between them. */
    private static void compare(String call, String answers) {
        int bar = answers.indexOf('|');
        due.is(call, answers.substring(0, bar), answers.substring(bar + 1));
    }

    private static String oneCall(int which) {
        text += which + ":";
        return which < 20 ? changing(which) : which < 32 ? asking(which) : shelves(which);
    }

    private static String answers(long got, long want) {
        return got + "|" + want;
    }

    private static String answers(String got, String want) {
        return got + "|" + want;
    }

    private static String changing(int which) {
        int a;
        int b;
        int c;
        switch (which) {
            case 0:
                a = pick(4);
                return answers(x.page(a), m.page(a));
            case 1: {
                a = pick(m.n);
                b = pick(m.n);
                c = pick(random.nextBoolean() ? 10 : 3);
                int w = pick(5);
                return answers(x.link(a, b, c, w), m.link(a, b, c, w));
            }
            case 2:
                a = pick(m.n);
                return answers(x.thread(a), m.thread(a));
            case 3: case 4: case 5: case 6: case 7: {
                a = pick(10);
                b = pick(random.nextInt(30) == 0 ? 31 : Math.max(1, m.pages.size()));
                c = pick(random.nextInt(60) == 0 ? 8 : 4);
                boolean w = random.nextBoolean();
                int v = random.nextInt();
                return answers(x.access(a, b, c, w, v), m.access(a, b, c, w, v));
            }
            case 8:
                a = pick(3);
                b = pick(random.nextBoolean() ? 5 : 51);
                c = pick(11);
                return answers(x.rule(a, b, c), m.rule(a, b, c));
            case 9:
                a = pick(21);
                b = pick(random.nextBoolean() ? 8 : 51);
                return answers(x.prices(a, b), m.prices(a, b));
            case 10:
                a = pick(20);
                b = pick(m.n);
                return answers(x.place(a, b), m.place(a, b));
            case 11: case 12:
                a = pick(10);
                b = pick(m.n);
                return answers(x.settle(a, b), m.settle(a, b));
            case 13:
                a = pick(10);
                b = pick(10);
                return answers(x.swap(a, b), m.swap(a, b));
            default:
                a = pick(random.nextInt(10) == 0 ? 201 : 12);
                return answers(x.run(a), m.run(a));
        }
    }

    private static String asking(int which) {
        int a = pick(which == 20 || which == 21 ? m.n : 12);
        int b = pick(which == 20 || which == 21 ? m.n : 5);
        int c = pick(5);
        switch (which) {
            case 20: return answers(x.far(a, b), m.far(a, b));
            case 21: return answers(x.way(a, b, c), m.way(a, b, c));
            case 22: return answers(x.look(a, c), m.look(a, c));
            case 23: return answers(x.fault(a, c), m.fault(a, c));
            case 24: return answers(Due.cell(x, a, c), m.cell(a, c));
            case 25: return answers(Due.read(x, a), m.read(a));
            case 26: return answers(x.node(a, c), m.node(a, c));
            case 27: return answers(x.linked(a, b, c), m.linked(a, b, c));
            case 28: return answers(x.best(a), m.best(a));
            case 29: return answers(x.gap(a), m.gap(a));
            case 30: {
                int placing = pick(3);
                int gain = 1 + pick(10);
                int n = pick(201);
                return answers(x.other(placing, c, gain, n), m.other(placing, c, gain, n));
            }
            default: return answers(x.same(), m.same());
        }
    }

    private static String shelves(int which) {
        int a = pick(8);
        int b = pick(5);
        int c = pick(10);
        switch (which) {
            case 32: case 33: return answers(x.keep(a, b, c), m.keep(a, b, c));
            case 34: return answers(x.make(a, b, c), m.make(a, b, c));
            case 35: case 36: {
                int j = pick(4);
                int n = pick(4);
                return answers(x.copy(a, b, c, j, n), m.copy(a, b, c, j, n));
            }
            case 37: return answers(Due.element(x, a, b), m.element(a, b));
            case 38: return answers(x.weight(a), m.weight(a));
            default: return answers(x.toss(a), m.toss(a));
        }
    }

    private static void compareAll(String when) {
        for (int what = -1; what <= 11; what++) {
            due.is(when + " count " + what, x.count(what), m.count(what));
            for (int i = -1; i <= 20; i++) {
                due.is(when + " look " + i + " " + what, x.look(i, what), m.look(i, what));
                due.is(when + " about " + i + " " + what, x.about(i, what), m.about(i, what));
                due.is(when + " fault " + i + " " + what, x.fault(i, what), m.fault(i, what));
                due.is(when + " node " + i + " " + what, x.node(i, what), m.node(i, what));
                due.is(when + " cell " + i + " " + what, Due.cell(x, i, what), m.cell(i, what));
                due.is(when + " element " + i + " " + what, Due.element(x, i, what), m.element(i, what));
            }
            for (int i = -1; i <= 301; i++) {
                due.is(when + " log " + i + " " + what, x.log(i, what), m.log(i, what));
            }
        }
        for (int i = -1; i <= 20; i++) {
            due.is(when + " read " + i, Due.read(x, i), m.read(i));
            due.is(when + " best " + i, x.best(i), m.best(i));
            due.is(when + " gap " + i, x.gap(i), m.gap(i));
            due.is(when + " weight " + i, x.weight(i), m.weight(i));
            due.is(when + " toss " + i, x.toss(i), m.toss(i));
        }
        for (int a = -1; a <= m.n; a++) {
            for (int b = -1; b <= m.n; b++) {
                due.is(when + " far " + a + " " + b, x.far(a, b), m.far(a, b));
                for (int what = -1; what <= 4; what++) {
                    due.is(when + " linked " + a + " " + b + " " + what, x.linked(a, b, what), m.linked(a, b, what));
                    due.is(when + " way " + a + " " + b + " " + what, x.way(a, b, what), m.way(a, b, what));
                }
            }
        }
        due.is(when + " same", x.same(), m.same());
    }
}
