import java.util.NoSuchElementException;

/** Promise 1: a new object. */
public final class P01NewObjectTest {
    public static void main(String[] args) {
        noText();
        tariffsAreRestZero();
        todayIsZero();
        nothingElse();
        noneCanBeAskedFor();
        objectsAreApart();
        Checks.finish();
    }

    private static void noText() {
        Checks.sentence("No TEXT;");
        BillForge x = new BillForge();
        Checks.due("characters", x.count(4), 0);
        Checks.due("where", x.where(), -2);
        Checks.illegalArgument("tariff of no TEXT", () -> x.tariff(0));
        Checks.due("the end is missing", x.where(), 0);
        Checks.due("the first character", new BillForge().text('r'), 1);
    }

    private static void tariffsAreRestZero() {
        Checks.sentence("all TARIFFS are rest 0;");
        BillForge x = new BillForge();
        for (int t = 0; t <= 2; t++) {
            Checks.due("use of none by TARIFF " + t, x.use(t, 0), 0);
            Checks.due("use of all by TARIFF " + t, x.use(t, 1000000), 0);
            x.subscribe(t, t);
            x.event(t, t, 0, 10000);
        }
        x.tick(31);
        for (int t = 0; t <= 2; t++) {
            Checks.due("charge by TARIFF " + t, x.charge(t, 0), 0);
        }
        Checks.due("run", x.run(), 0);
    }

    private static void todayIsZero() {
        Checks.sentence("TODAY 0;");
        BillForge x = new BillForge();
        Checks.due("TODAY", x.count(0), 0);
        Checks.due("an EVENT on DAY 0", x.event(1, 0, 0, 1), 1);
        Checks.throwing("an EVENT on DAY 1", IndexOutOfBoundsException.class, () -> x.event(2, 0, 1, 1));
        Checks.due("the next DAY", x.tick(1), 1);
    }

    private static void nothingElse() {
        Checks.sentence("nothing else is there.");
        BillForge x = new BillForge();
        Checks.countsAre(x, 0, 0, 0, 0, 0);
        Checks.booksAre(x, 0, 0, 0, 0, 0);
        for (int c = 0; c <= 4; c++) {
            Checks.toldIs(x, c, -1, 0, 0, 0, 0, 0, 0);
            for (int p = 0; p <= 13; p++) {
                Checks.due("charge " + c + " " + p, x.charge(c, p), 0);
            }
        }
        Checks.due("run", x.run(), 0);
        Checks.tickTo(x, 400);
        Checks.due("run on the last DAY", x.run(), 0);
        Checks.countsAre(x, 400, 0, 0, 0, 0);
        Checks.booksAre(x, 0, 0, 0, 0, 0);
    }

    private static void noneCanBeAskedFor() {
        Checks.sentence("nothing else is there.");
        for (int what = -1; what <= 6; what++) {
            int of = what;
            Checks.refused("invoice(0, " + what + ")", NoSuchElementException.class, BillForge::new, x -> x.invoice(0, of));
        }
        for (int c = 0; c <= 4; c++) {
            int of = c;
            Checks.refusedState("pause on of " + c, BillForge::new, x -> x.pause(of, true) ? 1 : 0);
            Checks.refusedState("pause off of " + c, BillForge::new, x -> x.pause(of, false) ? 1 : 0);
        }
    }

    private static void objectsAreApart() {
        Checks.sentence("nothing else is there.");
        BillForge busy = Fixtures.busy();
        BillForge fresh = new BillForge();
        Checks.due("where of a new object beside another", fresh.where(), -2);
        busy.pay(0, 1);
        Checks.sameState("another object", fresh, new BillForge());
    }
}
