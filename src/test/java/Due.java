/** Counts the answers that are not as due. */
final class Due {
    private int wrong = 0;
    private String sentence = "";

    /** The sentence of the document by which the next answers are due; it is told with each wrong one. */
    void by(String words) {
        sentence = "[" + words + "] ";
    }

    void is(String call, long got, long want) {
        if (got != want) {
            tell(call + " answered " + got + ", due is " + want);
        }
    }

    void is(String call, String got, String want) {
        if (!got.equals(want)) {
            tell(call + " answered " + got + ", due is " + want);
        }
    }

    void tell(String fault) {
        wrong++;
        System.out.println(sentence + fault);
    }

    int wrongs() {
        return wrong;
    }

    void end() {
        System.out.println(wrong == 0 ? "all answers are as due" : wrong + " answers are not as due");
        if (wrong != 0) {
            System.exit(1);
        }
    }

    /** The answer of cell, or the name of what it throws. */
    static String cell(FarCells x, int page, int cell) {
        try {
            return "" + x.cell(page, cell);
        } catch (RuntimeException e) {
            return e.getClass().getSimpleName();
        }
    }

    /** The answer of read, or the name of what it throws. */
    static String read(FarCells x, int thread) {
        try {
            return "" + x.read(thread);
        } catch (RuntimeException e) {
            return e.getClass().getSimpleName();
        }
    }

    /** The answer of element, or the name of what it throws. */
    static String element(FarCells x, int d, int i) {
        try {
            return "" + x.element(d, i);
        } catch (RuntimeException e) {
            return e.getClass().getSimpleName();
        }
    }
}
