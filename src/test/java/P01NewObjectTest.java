/** Promise 1: a new object. */
public final class P01NewObjectTest {
    public static void main(String[] args) {
        BillForge x = new BillForge();
        Checks.due("where", x.where(), -2);
        for (int what = 0; what <= 4; what++) {
            Checks.due("count " + what, x.count(what), 0);
            Checks.due("books " + what, x.books(what), 0);
        }
        for (int t = 0; t < 3; t++) {
            Checks.due("use of TARIFF " + t, x.use(t, 1000000), 0);
        }
        for (int c = 0; c < 5; c++) {
            Checks.due("TARIFF of " + c, x.told(c, 0), -1);
            for (int what = 1; what <= 6; what++) {
                Checks.due("told " + c + " " + what, x.told(c, what), 0);
            }
            for (int p = 0; p <= 13; p++) {
                Checks.due("charge " + c + " " + p, x.charge(c, p), 0);
            }
        }
        Checks.throwing("invoice 0", java.util.NoSuchElementException.class, () -> x.invoice(0, 0));
        Checks.due("run", x.run(), 0);
        tariffsAreRestZero();
        objectsAreApart();
        Checks.finish();
    }

    private static void tariffsAreRestZero() {
        BillForge x = new BillForge();
        for (int t = 0; t < 3; t++) {
            x.subscribe(t, t);
            x.event(t, t, 0, 10000);
        }
        x.tick(31);
        for (int t = 0; t < 3; t++) {
            Checks.due("charge by TARIFF " + t, x.charge(t, 0), 0);
        }
        Checks.due("run", x.run(), 0);
    }

    private static void objectsAreApart() {
        BillForge one = Checks.withTariff("fee 10;rest 5");
        one.subscribe(0, 0);
        one.event(1, 0, 0, 1);
        BillForge other = new BillForge();
        Checks.due("use of another object", other.use(0, 1), 0);
        Checks.due("TARIFF in another object", other.told(0, 0), -1);
        Checks.due("EVENTS of another object", other.count(1), 0);
    }
}
