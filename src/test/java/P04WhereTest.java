/** Promise 4: where. */
public final class P04WhereTest {
    public static void main(String[] args) {
        characters();
        words();
        numbers();
        missingEnds();
        whatTheLatestTariffFound();
        nothingOfAnOlderText();
        Checks.finish();
    }

    private static void characters() {
        fault(";rest 0", 0);
        fault("5", 0);
        fault("  ;", 2);
        fault("fee;", 3);
        fault("fee x", 4);
        fault("fee -1", 4);
        fault("fee 1 2", 6);
        fault("fee 1 x", 6);
        fault("fee 1x", 5);
        fault("fee 1rest 0", 5);
        fault("fee 1;;rest 0", 6);
        fault("fee 1; ;rest 0", 7);
        fault("per 10;rest 0", 6);
        fault("per 10 ;rest 0", 7);
        fault("tier 10 x", 8);
        fault("rest 5;", 6);
        fault("rest 5 ;", 7);
        fault("rest 5;rest 5", 6);
        fault("rest 5 5", 7);
        fault("rest 5x", 6);
        fault("fee_1;rest 0", 3);
    }

    private static void words() {
        fault("fee 1;fee 2;rest 0", 6);
        fault("free 1; free 2;rest 0", 8);
        fault("min 1;min", 6);
        fault("per 1 1;per", 8);
        fault("per 1 1;tier 1 1;rest 0", 8);
        fault("tier 1 1;per 1 1;rest 0", 9);
        fault("tier 1 0;tier 2 0;tier 3 0;tier 4 0;tier 5 0;rest 0", 36);
        fault("fex 1;rest 0", 0);
        fault("  feex 1;rest 0", 2);
        fault("f ee 1;rest 0", 0);
        fault("Fee 1;rest 0", 0);
        fault("fee 1;resting 0", 6);
        for (String letter : new String[] {"a", "z", "A", "Z"}) {
            fault("fee" + letter + " 1;rest 0", 0);
        }
        fault("fee 1;re", 6);
    }

    private static void numbers() {
        fault("per 0 1;rest 0", 4);
        fault("per 00000 1;rest 0", 4);
        fault("tier 0 1;rest 0", 5);
        fault("tier 5 1;tier 5 1;rest 0", 14);
        fault("tier 5 1;tier   4 1;rest 0", 16);
        fault("tier 99999 1;tier 99999 1;rest 0", 18);
        fault("fee 123456;rest 0", 9);
        fault("fee   1234567;rest 0", 11);
        fault("rest 000000", 10);
        fault("per 123456 1;rest 0", 9);
        fault("per 12345 123456;rest 0", 15);
        fault("tier 123456 1;rest 0", 10);
    }

    private static void missingEnds() {
        fault("", 0);
        fault("   ", 3);
        fault("fee", 3);
        fault("fee ", 4);
        fault("fee 1", 5);
        fault("fee 1 ", 6);
        fault("fee 1;", 6);
        fault("fee 1; ", 7);
        fault("per 5", 5);
        fault("tier 5 ", 7);
        fault("tier 5 1", 8);
        fault("rest", 4);
        fault("fee 1;rest  ", 12);
    }

    private static void whatTheLatestTariffFound() {
        BillForge x = new BillForge();
        Checks.due("none was there", x.where(), -2);
        Checks.write(x, "rest");
        Checks.illegalArgument("tariff 1", () -> x.tariff(1));
        Checks.due("where", x.where(), 4);
        Checks.write(x, " 1");
        Checks.due("text changes nothing of it", x.where(), 4);
        Checks.illegalArgument("tariff -1", () -> x.tariff(-1));
        Checks.due("t was not as said", x.where(), -2);
        Checks.due("tariff", x.tariff(1), 1);
        Checks.due("it was one", x.where(), -2);
        Checks.illegalArgument("tariff 0", () -> x.tariff(0));
        Checks.due("empty", x.where(), 0);
        Checks.setTariff(x, 0, "rest 1");
        Checks.due("it was one again", x.where(), -2);
    }

    private static void nothingOfAnOlderText() {
        String[] texts = {"fee 1", "fee ", "fee", "fe", "fee 1;", "fee 1;re", "fee 1;rest", "fee 1;rest "};
        int[] places = {5, 4, 3, 0, 6, 6, 10, 11};
        for (int i = 0; i < texts.length; i++) {
            BillForge x = Checks.withTariff("fee 1;rest 20   ");
            Checks.write(x, texts[i]);
            Checks.illegalArgument("'" + texts[i] + "' behind a longer one", () -> x.tariff(0));
            Checks.due("where in '" + texts[i] + "' behind a longer one", x.where(), places[i]);
        }
    }

    private static void fault(String text, int place) {
        BillForge x = new BillForge();
        Checks.write(x, text);
        Checks.illegalArgument("tariff '" + text + "'", () -> x.tariff(0));
        Checks.due("where in '" + text + "'", x.where(), place);
        Checks.due("where in '" + text + "', asked again", x.where(), place);
    }
}
