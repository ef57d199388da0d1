/** Promise 18: count. */
public final class P18CountTest {
    public static void main(String[] args) {
        empty();
        whatIsTold();
        full();
        wrongNumbers();
        Checks.finish();
    }

    private static void empty() {
        Checks.sentence("What 0: TODAY, 1: EVENTS, 2: INVOICES, 3: PLANS, 4: characters of THE TEXT.");
        Checks.countsAre(new BillForge(), 0, 0, 0, 0, 0);
    }

    private static void whatIsTold() {
        Checks.sentence("What 0: TODAY, 1: EVENTS, 2: INVOICES, 3: PLANS, 4: characters of THE TEXT.");
        BillForge x = Checks.withTariff("fee 31;rest 1");
        x.subscribe(0, 0);
        Checks.countsAre(x, 0, 0, 0, 0, 0);
        x.event(5, 0, 0, 1);
        x.event(6, 0, 0, 1);
        x.event(6, 0, 0, 1);
        Checks.countsAre(x, 0, 2, 0, 0, 0);
        x.tick(32);
        Checks.countsAre(x, 32, 2, 0, 0, 0);
        x.run();
        Checks.countsAre(x, 32, 2, 1, 0, 0);
        x.plan(0, 1, 1);
        x.plan(0, 1, 1);
        x.plan(0, 1, 1);
        Checks.write(x, "fee 1");
        Checks.countsAre(x, 32, 2, 1, 3, 5);
        x.tick(1);
        Checks.setTariff(x, 1, ";rest 1");
        x.run();
        Checks.countsAre(x, 33, 2, 1, 3, 0);
    }

    private static void full() {
        Checks.sentence("What 0: TODAY, 1: EVENTS, 2: INVOICES, 3: PLANS, 4: characters of THE TEXT.");
        Checks.countsAre(Fixtures.full(), 400, 80, 50, 10, 60);
    }

    private static void wrongNumbers() {
        Checks.sentence("IllegalArgumentException for others.");
        int[] wrong = {-1, 5, 6, Integer.MIN_VALUE, Integer.MAX_VALUE};
        for (int what : wrong) {
            Checks.refusedArgument("count " + what, BillForge::new, x -> x.count(what));
            Checks.refusedArgument("count " + what, Fixtures::busy, x -> x.count(what));
            Checks.refusedArgument("count " + what, Fixtures::full, x -> x.count(what));
        }
    }
}
