/** The fixtures are what they say; what the other tests begin with hangs on that. */
public final class FixturesTest {
    public static void main(String[] args) {
        BillForge busy = Fixtures.busy();
        Checks.countsAre(busy, 82, 4, 7, 1, 12);
        Checks.due("a where", busy.where(), 6);
        long[] stages = {1, 3, 0, 3, 0};
        long[] paused = {0, 1, 1, 1, 0};
        for (int c = 0; c <= 4; c++) {
            Checks.due("STAGE of " + c, busy.told(c, 2), stages[c]);
            Checks.due("PAUSED of " + c, busy.told(c, 1), paused[c]);
        }
        Checks.due("CREDIT", busy.told(2, 3) > 0, true);
        Checks.due("no TARIFF", busy.told(4, 0), -1);
        Checks.due("DEFERRED", busy.told(4, 5), 340);
        Checks.due("THE TEXT is a TARIFF", busy.tariff(2), 2);

        BillForge full = Fixtures.full();
        Checks.countsAre(full, 400, 80, 50, 10, 60);
        Checks.due("all KEYS are there", full.event(1, 0, 400, 1) + full.event(80, 0, 400, 1), 0);
        Checks.due("THE TEXT is a TARIFF", full.tariff(2), 2);

        BillForge owing = Fixtures.owing();
        Checks.countsAre(owing, 31, 0, 1, 0, 0);
        Checks.invoiceIs(owing, 0, 0, 0, 310, 31, 0, 0);
        Checks.due("owing for 20 DAYS", Fixtures.owingFor(20).count(0), 51);
        Checks.finish();
    }
}
