/** Promise 5: use. */
public final class P05UseTest {
    public static void main(String[] args) {
        row("rest 3", 0, 0, 1, 3, 1000000, 3000000);
        row("free 10;rest 3", 0, 0, 9, 0, 10, 0, 11, 3);
        row("min 7;rest 3", 0, 7, 2, 7, 3, 9);
        row("fee 500;rest 3", 0, 0, 4, 12);
        row("tier 10 5;rest 1", 9, 45, 10, 50, 11, 51);
        row("tier 1 9;tier 3 7;tier 6 5;tier 10 3;rest 1", 0, 0, 1, 9, 2, 16, 3, 23, 4, 28, 6, 38, 7, 41, 10, 50, 11, 51);
        row("free 2;tier 10 5;rest 1", 2, 0, 3, 5, 12, 50, 13, 51);
        row("per 10 99;rest 5", 0, 0, 1, 99, 10, 99, 11, 198, 20, 198, 21, 297);
        row("free 5;min 100;per 10 99;rest 5", 0, 100, 5, 100, 15, 100, 16, 198);
        row("rest 99999", 1000000, 99999000000L);
        row("per 1 99999;rest 0", 1000000, 99999000000L);
        row("per 99999 1;rest 0", 99999, 1, 100000, 2, 1000000, 11);
        row("min 99999;free 99999;rest 1", 99999, 99999, 1000000, 900001);
        wrongNumbers();
        Checks.finish();
    }

    private static void row(String tariff, long... unitsAndUse) {
        BillForge x = Checks.withTariff(tariff);
        for (int i = 0; i < unitsAndUse.length; i += 2) {
            Checks.due("use of " + unitsAndUse[i] + " by " + tariff, x.use(0, (int) unitsAndUse[i]), unitsAndUse[i + 1]);
        }
    }

    private static void wrongNumbers() {
        BillForge x = new BillForge();
        Checks.illegalArgument("TARIFF -1", () -> x.use(-1, 1));
        Checks.illegalArgument("TARIFF 3", () -> x.use(3, 1));
        Checks.illegalArgument("UNITS -1", () -> x.use(0, -1));
        Checks.illegalArgument("UNITS 1000001", () -> x.use(0, 1000001));
        Checks.illegalArgument("UNITS far below", () -> x.use(0, Integer.MIN_VALUE));
    }
}
