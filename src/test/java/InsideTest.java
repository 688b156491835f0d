import java.lang.reflect.Field;

/**
 * Two sentences that no run of calls can reach, as all of the class's other promises hold: what they speak of is
 * put into the object from inside.
 */
public final class InsideTest {
    private static final Due due = new Due();

    public static void main(String[] args) throws ReflectiveOperationException {
        sameOfOtherCells();
        noMoveWithoutAWay();
        due.end();
    }

    private static void sameOfOtherCells() throws ReflectiveOperationException {
        due.by("25: whether a plain memory ends with the same CELLS of all PAGES: 1, else 0");
        for (int page = 0; page < 20; page += 19) {
            for (int cell = 0; cell < 4; cell += 3) {
                FarCells x = new FarCells(0, 0, 0);
                Setup.pages(x, 0, 20);
                x.thread(0);
                x.access(0, page, cell, true, 5);
                x.run(1);
                due.is("alike", x.same(), 1);
                ((int[]) of(pageOf(x, page), "cells"))[cell] = 6;
                due.is("cell " + cell + " of page " + page + " is another one", x.same(), 0);
            }
        }
    }

    private static void noMoveWithoutAWay() throws ReflectiveOperationException {
        due.by("Terms: (without a WAY between two of them: it isn't done)");
        for (int stranger = 1; stranger <= 2; stranger++) {
            FarCells x = new FarCells(1, 0, 0);
            x.link(0, 2, 0, 1);
            x.link(1, 2, 0, 1);
            x.rule(0, 1, 10);
            x.prices(0, 0);
            Setup.placed(x, 0, 0, 1);
            x.run(1);
            Object page = pageOf(x, 0);
            ((int[]) of(page, "faults"))[0] = stranger;
            field(page, "faultCount").setInt(page, 1);
            Setup.reader(x, 1, 0);
            x.run(1);
            due.is("faults", Setup.faults(x, 0), "1 " + stranger);
            due.is("a fault of node " + stranger, x.look(0, 5), stranger == 1 ? 1 : 0);
        }
    }

    private static Object pageOf(FarCells x, int page) throws ReflectiveOperationException {
        return ((Object[]) of(of(x, "machine"), "pages"))[page];
    }

    private static Object of(Object owner, String name) throws ReflectiveOperationException {
        return field(owner, name).get(owner);
    }

    private static Field field(Object owner, String name) throws ReflectiveOperationException {
        Field f = owner.getClass().getDeclaredField(name);
        f.setAccessible(true);
        return f;
    }
}
