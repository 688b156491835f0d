/**
 * All that can be asked of an object, in one text. That takes more calls than the document promises answers for;
 * the class counts no calls, so a test may do it all the same.
 */
final class Seen {
    private Seen() {
    }

    static String of(FarCells x) {
        StringBuilder all = new StringBuilder();
        for (int what = 0; what <= 10; what++) {
            all.append(" count ").append(x.count(what));
        }
        pagesOf(x, all);
        threadsOf(x, all);
        boardOf(x, all);
        for (int i = 0; i <= x.count(6) && i < 300; i++) {
            all.append(" log");
            for (int what = 0; what <= 9; what++) {
                all.append(" ").append(x.log(i, what));
            }
        }
        all.append(" same ").append(x.same());
        for (int placing = 0; placing <= 2; placing++) {
            all.append(" other ").append(x.other(placing, 3, 2, 60));
        }
        shelvesOf(x, all);
        return all.toString();
    }

    private static void pagesOf(FarCells x, StringBuilder all) {
        for (int p = 0; p < 20; p++) {
            all.append(" page ").append(p);
            for (int what = 0; what <= 6; what++) {
                all.append(" ").append(x.look(p, what));
            }
            for (int i = 0; i < 4; i++) {
                all.append(" ").append(x.fault(p, i)).append(" ").append(Due.cell(x, p, i));
            }
            all.append(" ").append(x.best(p)).append(" ").append(x.gap(p));
        }
    }

    private static void threadsOf(FarCells x, StringBuilder all) {
        for (int t = 0; t < 10; t++) {
            all.append(" thread ").append(t);
            for (int what = 0; what <= 7; what++) {
                all.append(" ").append(x.about(t, what));
            }
            all.append(" ").append(Due.read(x, t));
        }
    }

    private static void boardOf(FarCells x, StringBuilder all) {
        for (int a = 0; a < 4; a++) {
            all.append(" node ").append(a);
            for (int what = 0; what <= 3; what++) {
                all.append(" ").append(x.node(a, what));
            }
            for (int b = 0; b < 4; b++) {
                all.append(" far ").append(x.far(a, b));
                for (int i = 0; i <= 3; i++) {
                    all.append(" ").append(x.way(a, b, i)).append(" ").append(x.linked(a, b, i));
                }
            }
        }
    }

    private static void shelvesOf(FarCells x, StringBuilder all) {
        for (int d = 0; d < 8; d++) {
            all.append(" shelf ").append(d).append(" ").append(x.weight(d)).append(" ").append(x.toss(d));
            for (int i = 0; i < 60; i++) {
                all.append(" ").append(Due.element(x, d, i));
            }
        }
    }
}
