/** What many tests begin with. */
final class Setup {
    static final int LEAST = Integer.MIN_VALUE;
    static final int GREATEST = Integer.MAX_VALUE;

    private Setup() {
    }

    /** The numbers just outside of a range, and those that are as far outside as can be. */
    static int[] outside(int least, int greatest) {
        return new int[] {least - 1, greatest + 1, LEAST, GREATEST};
    }

    static void pages(FarCells x, int kind, int n) {
        for (int i = 0; i < n; i++) {
            x.page(kind);
        }
    }

    /** Makes pages of a kind and places each of them on a node. */
    static void placed(FarCells x, int kind, int node, int n) {
        for (int i = 0; i < n; i++) {
            x.place(x.page(kind), node);
        }
    }

    static void threads(FarCells x, int node, int n) {
        for (int i = 0; i < n; i++) {
            x.thread(node);
        }
    }

    /** A new thread on a node that reads cell 0 of the pages, one behind the other. */
    static int reader(FarCells x, int node, int... pages) {
        int t = x.thread(node);
        for (int p : pages) {
            x.access(t, p, 0, false, 0);
        }
        return t;
    }

    /** Reads of cell 0 of a page come to a thread. */
    static void reads(FarCells x, int thread, int page, int n) {
        for (int i = 0; i < n; i++) {
            x.access(thread, page, 0, false, 0);
        }
    }

    /** The places taken on nodes 0, 1 and so on. */
    static String taken(FarCells x) {
        StringBuilder text = new StringBuilder();
        for (int node = 0; node < x.count(1); node++) {
            text.append(node == 0 ? "" : " ").append(x.node(node, 0));
        }
        return text.toString();
    }

    /** The threads of a node in the order of their queue. */
    static String queue(FarCells x, int node) {
        StringBuilder text = new StringBuilder();
        for (int i = 0; i < x.node(node, 3); i++) {
            for (int t = 0; t < x.count(5); t++) {
                if (x.about(t, 0) == node && x.about(t, 7) == i) {
                    text.append(text.length() == 0 ? "" : " ").append(t);
                }
            }
        }
        return text.toString();
    }

    /** The faults that are kept of a page, the latest one first. */
    static String faults(FarCells x, int page) {
        StringBuilder text = new StringBuilder();
        for (int i = 0; i < x.look(page, 4); i++) {
            text.append(i == 0 ? "" : " ").append(x.fault(page, i));
        }
        return text.toString();
    }

    /** The row on a shelf. */
    static String row(FarCells x, int d, int n) {
        StringBuilder text = new StringBuilder();
        for (int i = 0; i < n; i++) {
            text.append(i == 0 ? "" : " ").append(Due.element(x, d, i));
        }
        return text.toString();
    }
}
