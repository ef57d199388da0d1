/** Promise 15: told. */
public final class P15ToldTest {
    public static void main(String[] args) {
        BillForge x = Checks.withTariff("rest 0");
        Checks.setTariff(x, 2, "fee 310;rest 1");
        x.subscribe(4, 2);
        row(x, 4, 2, 0, 0, 0, 0, 0, 0);
        x.plan(4, 400, 40);
        x.pay(4, 10);
        row(x, 4, 2, 0, 0, 10, 0, 400, 0);
        x.tick(31);
        x.run();
        row(x, 4, 2, 0, 0, 0, 300, 90, 310);
        x.tick(15);
        row(x, 4, 2, 0, 1, 0, 300, 0, 400);
        x.tick(20);
        row(x, 4, 2, 1, 3, 0, 300, 0, 400);
        x.pay(4, 305);
        row(x, 4, 2, 0, 0, 5, 0, 0, 400);
        row(x, 3, -1, 0, 0, 0, 0, 0, 0);
        wrongNumbers(x);
        Checks.finish();
    }

    private static void row(BillForge x, int c, long... due) {
        for (int what = 0; what < due.length; what++) {
            Checks.due("told " + c + " " + what + " on " + x.count(0), x.told(c, what), due[what]);
        }
    }

    private static void wrongNumbers(BillForge x) {
        Checks.illegalArgument("c -1", () -> x.told(-1, 0));
        Checks.illegalArgument("c 5", () -> x.told(5, 0));
        Checks.illegalArgument("what -1", () -> x.told(0, -1));
        Checks.illegalArgument("what 7", () -> x.told(0, 7));
    }
}
