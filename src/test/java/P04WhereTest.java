/** Promise 4: where. */
public final class P04WhereTest {
    public static void main(String[] args) {
        characters();
        wordsThatWereThere();
        wordsBehindAnother();
        wordsThatAreNone();
        numbersThatAreNotAsSaid();
        sixthDigits();
        missingEnds();
        theFirstOfSeveralFaults();
        atTheSixtiethCharacter();
        minusTwo();
        whatTheLatestTariffFound();
        nothingOfAnOlderText();
        Checks.finish();
    }

    private static void fault(String text, int place) {
        for (int t = 0; t <= 2; t++) {
            int of = t;
            BillForge x = Checks.withText(text);
            Checks.illegalArgument("tariff '" + text + "'", () -> x.tariff(of));
            Checks.due("where in '" + text + "'", x.where(), place);
            Checks.due("where in '" + text + "', asked again", x.where(), place);
        }
    }

    private static void characters() {
        Checks.sentence("the place (0 the first) of the first character with which none goes on so");
        fault(";rest 0", 0);
        fault("5", 0);
        fault("~", 0);
        fault("  ;", 2);
        fault("fee;", 3);
        fault("fee -1", 4);
        fault("fee x", 4);
        fault("fee rest 0", 4);
        fault("fee 1 2", 6);
        fault("fee 1 x", 6);
        fault("fee 1x", 5);
        fault("fee 1.5;rest 0", 5);
        fault("fee 1rest 0", 5);
        fault("fee 1;;rest 0", 6);
        fault("fee 1; ;rest 0", 7);
        fault("fee 1;2;rest 0", 6);
        fault("per 10;rest 0", 6);
        fault("per 10 ;rest 0", 7);
        fault("per 10 1 1;rest 0", 9);
        fault("tier 10 x", 8);
        fault("rest 5;", 6);
        fault("rest 5 ;", 7);
        fault("rest 5;rest 5", 6);
        fault("rest 5;fee 5", 6);
        fault("rest 5 5", 7);
        fault("rest 5 rest 5", 7);
        fault("rest 5x", 6);
        fault("fee_1;rest 0", 3);
    }

    private static void wordsThatWereThere() {
        Checks.sentence("of a word that can not be there (it was there [...]) its first letter");
        fault("fee 1;fee 2;rest 0", 6);
        fault("fee 1;  fee 2;rest 0", 8);
        fault("fee 1;fee", 6);
        fault("free 1; free 2;rest 0", 8);
        fault("free 1;fee 1;free 2;rest 0", 13);
        fault("min 1;min", 6);
        fault("min 1;min 1;rest 0", 6);
        fault("per 1 1;per", 8);
        fault("per 1 1;per 1 1;rest 0", 8);
        fault("tier 1 0;tier 2 0;tier 3 0;tier 4 0;tier 5 0;rest 0", 36);
        fault("tier 1 0;tier 2 0;tier 3 0;tier 4 0;tier", 36);
    }

    private static void wordsBehindAnother() {
        Checks.sentence("of a word that can not be there ([...] or is behind another one [...]) its first letter");
        fault("per 1 1;tier 1 1;rest 0", 8);
        fault("per 1 1; tier", 9);
        fault("per 1 1;fee 1;tier 1 1;rest 0", 14);
        fault("tier 1 1;per 1 1;rest 0", 9);
        fault("tier 1 1;  per", 11);
        fault("tier 1 1;fee 1;per 1 1;rest 0", 15);
    }

    private static void wordsThatAreNone() {
        Checks.sentence("of a word that can not be there ([...] or is none) its first letter");
        fault("x", 0);
        fault("fex 1;rest 0", 0);
        fault("fe 1;rest 0", 0);
        fault("  feex 1;rest 0", 2);
        fault("f ee 1;rest 0", 0);
        fault("Fee 1;rest 0", 0);
        fault("fee 1;resting 0", 6);
        fault("fee 1; tax 7;rest 0", 7);
        fault("fee 1;restfee 0", 6);
        fault("tie 1 1;rest 0", 0);
        for (String letter : new String[] {"a", "z", "A", "Z"}) {
            fault("fee" + letter + " 1;rest 0", 0);
        }
        fault("fee 1;re", 6);
    }

    private static void numbersThatAreNotAsSaid() {
        Checks.sentence("of a NUMBER that is not as said its first digit");
        fault("per 0 1;rest 0", 4);
        fault("per   0 1;rest 0", 6);
        fault("per0 1;rest 0", 3);
        fault("per 00000 1;rest 0", 4);
        fault("tier 0 1;rest 0", 5);
        fault("tier 00 1;rest 0", 5);
        fault("tier 5 1;tier 5 1;rest 0", 14);
        fault("tier 5 1;tier   4 1;rest 0", 16);
        fault("tier 5 1;tier 00005 1;rest 0", 14);
        fault("tier 5 1;tier 0 1;rest 0", 14);
        fault("tier 99999 1;tier 99999 1;rest 0", 18);
        fault("tier 1 1;tier 2 1;tier 3 1;tier 3 1;rest 0", 32);
    }

    private static void sixthDigits() {
        Checks.sentence("(a sixth digit is at fault itself)");
        fault("fee 123456;rest 0", 9);
        fault("fee   1234567;rest 0", 11);
        fault("fee123456;rest 0", 8);
        fault("free 123456;rest 0", 10);
        fault("min 123456;rest 0", 9);
        fault("rest 000000", 10);
        fault("rest 999999", 10);
        fault("per 123456 1;rest 0", 9);
        fault("per 12345 123456;rest 0", 15);
        fault("tier 123456 1;rest 0", 10);
        fault("tier 12345 123456;rest 0", 16);
    }

    private static void missingEnds() {
        Checks.sentence("how many characters there are, if the end is missing");
        fault("", 0);
        fault("   ", 3);
        fault("fee", 3);
        fault("fee ", 4);
        fault("fee 1", 5);
        fault("fee 1 ", 6);
        fault("fee 12345", 9);
        fault("fee 1;", 6);
        fault("fee 1; ", 7);
        fault("per", 3);
        fault("per 5", 5);
        fault("per 5 ", 6);
        fault("per 5 1", 7);
        fault("tier 5 ", 7);
        fault("tier 5 1", 8);
        fault("tier 5 1;", 9);
        fault("rest", 4);
        fault("rest   ", 7);
        fault("fee 1;rest  ", 12);
    }

    private static void theFirstOfSeveralFaults() {
        Checks.sentence("the place (0 the first) of the first character with which none goes on so");
        fault("fee 1;fee 123456;;rest", 6);
        fault("per 0 123456;rest 0", 4);
        fault("fee x;per 0 1;rest", 4);
        fault("tier 5 1;tier 4 x;fee", 14);
        fault("fee 123456x", 9);
        fault("min 1 1;tax", 6);
    }

    private static void atTheSixtiethCharacter() {
        Checks.sentence("how many characters there are, if the end is missing");
        fault(" ".repeat(60), 60);
        fault("fee 1" + " ".repeat(55), 60);
        fault(" ".repeat(56) + "rest", 60);
        Checks.sentence("the place (0 the first) of the first character with which none goes on so");
        fault("rest 1" + " ".repeat(53) + ";", 59);
        fault(" ".repeat(59) + ";", 59);
        fault(" ".repeat(59) + "x", 59);
        Checks.sentence("(a sixth digit is at fault itself)");
        fault(" ".repeat(50) + "rest123456", 59);
    }

    private static void minusTwo() {
        Checks.sentence("-2 if it was one, t was not as said, or there was none.");
        Checks.due("there was none", new BillForge().where(), -2);
        Checks.due("none, but a TEXT that is no TARIFF", Checks.withText("fee x").where(), -2);
        Checks.due("it was one", Checks.withTariff("rest 0").where(), -2);
        int[] wrong = {-1, 3, Integer.MIN_VALUE, Integer.MAX_VALUE};
        for (int t : wrong) {
            for (String text : new String[] {"", "rest 0", "fee x"}) {
                BillForge x = Checks.withText(text);
                Checks.illegalArgument("tariff " + t, () -> x.tariff(t));
                Checks.due("where of tariff " + t + " with '" + text + "'", x.where(), -2);
            }
        }
    }

    private static void whatTheLatestTariffFound() {
        Checks.sentence("Where the latest tariff found THE TEXT to be no TARIFF");
        BillForge x = Checks.withText("rest");
        Checks.illegalArgument("tariff 1", () -> x.tariff(1));
        Checks.due("where", x.where(), 4);
        Checks.write(x, " 1");
        Checks.due("text changes nothing of it", x.where(), 4);
        Checks.illegalArgument("a refused text", () -> x.text(7));
        Checks.due("nor a refused one", x.where(), 4);
        x.subscribe(0, 1);
        x.tick(31);
        x.run();
        x.pay(0, 1);
        Checks.due("nor other calls", x.where(), 4);
        Checks.illegalArgument("tariff -1", () -> x.tariff(-1));
        Checks.due("t was not as said", x.where(), -2);
        Checks.due("tariff", x.tariff(1), 1);
        Checks.due("it was one", x.where(), -2);
        Checks.illegalArgument("tariff 0", () -> x.tariff(0));
        Checks.due("empty", x.where(), 0);
        Checks.write(x, "fee 1;");
        Checks.illegalArgument("tariff 2", () -> x.tariff(2));
        Checks.due("another place", x.where(), 6);
        Checks.write(x, "rest 1");
        Checks.due("tariff", x.tariff(2), 2);
        Checks.due("it was one again", x.where(), -2);
    }

    private static void nothingOfAnOlderText() {
        Checks.sentence("how many characters there are, if the end is missing");
        String[] texts = {"fee 1", "fee ", "fee", "fee 1;", "fee 1;rest", "fee 1;rest "};
        for (String text : texts) {
            BillForge x = Checks.withTariff("fee 1;rest 20   ");
            Checks.write(x, text);
            Checks.illegalArgument("'" + text + "' behind a longer one", () -> x.tariff(0));
            Checks.due("where in '" + text + "' behind a longer one", x.where(), text.length());
        }
    }
}
