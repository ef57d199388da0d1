/** Promise 3: tariff. */
public final class P03TariffTest {
    public static void main(String[] args) {
        good("rest 0", 1);
        good("rest0", 1);
        good("   rest     99999   ", 1);
        good("fee 1;free 2;min 3;per 4 5;rest 6", 5);
        good("per4 5;min3;free2;fee1;rest6", 5);
        good(" fee  1 ; free  2 ;min 3 ; tier  4  5 ;  rest  6 ", 5);
        good("tier 1 0;tier 2 0;tier 3 0;tier 4 0;rest 0", 5);
        good("tier 1 1;fee 0;tier 99999 0;rest 0", 4);
        good("per 00001 00000;rest 00000", 2);
        bad("", "  ", "rest", "rest ;", "rest 5;", "rest 5;fee 1", "rest 5 5", "rest 123456", "rest -1", "Rest 1");
        bad("fee 1", "fee 1;", "fee 1;;rest 0", ";rest 0", "fee 1 rest 0", "fee 1,rest 0", "f ee 1;rest 0");
        bad("fee 1;fee 1;rest 0", "free 1;free 1;rest 0", "min 1;min 1;rest 0", "per 1 1;per 1 1;rest 0");
        bad("per 0 1;rest 0", "per 1;rest 0", "tier 0 1;rest 0", "tier 1;rest 0", "tier 1 1 1;rest 0");
        bad("tier 5 1;tier 5 1;rest 0", "tier 5 1;tier 4 1;rest 0", "rest 0;tier 5 1", "rest 0;rest 0");
        bad("per 1 1;tier 1 1;rest 0", "tier 1 1;per 1 1;rest 0", "1 fee;rest 0", "fee 1 2;rest 0", "fe 1;rest 0");
        bad("tier 1 0;tier 2 0;tier 3 0;tier 4 0;tier 5 0;rest 0");
        aNewOneTakesTheOldOnesPlace();
        wrongNumbers();
        Checks.finish();
    }

    private static void good(String text, int parts) {
        for (int t = 0; t < 3; t++) {
            BillForge x = new BillForge();
            Checks.write(x, text);
            Checks.due("tariff '" + text + "'", x.tariff(t), parts);
            Checks.due("THE TEXT behind it", x.count(4), 0);
            Checks.due("where", x.where(), -2);
        }
    }

    private static void bad(String... texts) {
        for (String text : texts) {
            BillForge x = Checks.withTariff("min 5;tier 3 2;rest 7");
            Checks.write(x, text);
            Checks.illegalArgument("tariff '" + text + "'", () -> x.tariff(0));
            Checks.due("THE TEXT stays: '" + text + "'", x.count(4), text.length());
            Checks.due("the least stays", x.use(0, 0), 5);
            Checks.due("the prices stay", x.use(0, 5), 20);
        }
    }

    private static void aNewOneTakesTheOldOnesPlace() {
        BillForge x = new BillForge();
        Checks.setTariff(x, 1, "free 2;min 100;tier 10 3;rest 1");
        Checks.setTariff(x, 2, "per 10 40;rest 0");
        Checks.due("TARIFF 1", x.use(1, 100), 118);
        Checks.due("TARIFF 2", x.use(2, 100), 400);
        Checks.due("TARIFF 0", x.use(0, 100), 0);
        Checks.setTariff(x, 1, "rest 2");
        Checks.due("no part of the old one is left", x.use(1, 11), 22);
        Checks.due("nor the least", x.use(1, 0), 0);
        Checks.setTariff(x, 2, "rest 2");
        Checks.due("nor per", x.use(2, 11), 22);
        Checks.setTariff(x, 2, "per 10 40;rest 3");
        Checks.due("nor rest", x.use(2, 1), 40);
    }

    private static void wrongNumbers() {
        int[] wrong = {-1, 3, Integer.MIN_VALUE, Integer.MAX_VALUE};
        BillForge x = new BillForge();
        Checks.write(x, "rest 4");
        for (int t : wrong) {
            Checks.illegalArgument("tariff " + t, () -> x.tariff(t));
            Checks.due("THE TEXT stays", x.count(4), 6);
        }
        Checks.due("and is read then", x.tariff(2), 1);
        Checks.illegalArgument("THE TEXT is empty behind it", () -> x.tariff(2));
        Checks.due("the TARIFF stays", x.use(2, 2), 8);
    }
}
