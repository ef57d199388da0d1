/** Promise 18: count. */
public final class P18CountTest {
    public static void main(String[] args) {
        BillForge x = Checks.withTariff("fee 31;rest 1");
        x.subscribe(0, 0);
        row(x, 0, 0, 0, 0, 0);
        x.event(5, 0, 0, 1);
        x.event(6, 0, 0, 1);
        x.event(6, 0, 0, 1);
        row(x, 0, 2, 0, 0, 0);
        x.tick(32);
        row(x, 32, 2, 0, 0, 0);
        x.run();
        row(x, 32, 2, 1, 0, 0);
        x.plan(0, 1, 1);
        x.plan(0, 1, 1);
        x.plan(0, 1, 1);
        Checks.write(x, "fee 1");
        row(x, 32, 2, 1, 3, 5);
        Checks.illegalArgument("what -1", () -> x.count(-1));
        Checks.illegalArgument("what 5", () -> x.count(5));
        Checks.finish();
    }

    private static void row(BillForge x, int... due) {
        for (int what = 0; what < due.length; what++) {
            Checks.due("count " + what, x.count(what), due[what]);
        }
    }
}
