/** Promise 16: books. */
public final class P16BooksTest {
    public static void main(String[] args) {
        BillForge x = Checks.withTariff("fee 310;rest 1");
        row(x, 0, 0, 0, 0, 0);
        x.subscribe(0, 0);
        x.subscribe(1, 0);
        x.pay(0, 1000);
        row(x, 1000, 0, 1000, 0, 0);
        x.plan(2, 620, 62);
        row(x, 1620, 0, 1000, 0, 620);
        x.tick(31);
        row(x, 1620, 0, 1000, 310, 310);
        x.run();
        row(x, 1620, 310, 690, 930, 310);
        x.pay(1, 300);
        row(x, 1920, 10, 690, 930, 310);
        x.event(1, 1, 0, 90);
        x.run();
        row(x, 1920, 100, 690, 1020, 310);
        Checks.setTariff(x, 0, "rest 0");
        x.run();
        row(x, 1920, 0, 1300, 310, 310);
        x.tick(31);
        row(x, 1920, 0, 1300, 620, 0);
        wrongNumbers(x);
        Checks.finish();
    }

    private static void row(BillForge x, long... due) {
        for (int what = 0; what < due.length; what++) {
            Checks.due("books " + what + " on " + x.count(0), x.books(what), due[what]);
        }
        Checks.balanced("on " + x.count(0), x);
    }

    private static void wrongNumbers(BillForge x) {
        Checks.illegalArgument("what -1", () -> x.books(-1));
        Checks.illegalArgument("what 5", () -> x.books(5));
        Checks.illegalArgument("what far below", () -> x.books(Integer.MIN_VALUE));
    }
}
