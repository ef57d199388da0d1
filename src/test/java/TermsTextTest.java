/** Of the terms: which TEXT is a TARIFF. Where it is none tells P04WhereTest. */
public final class TermsTextTest {
    public static void main(String[] args) {
        partsWithSemicolonsBetween();
        blanks();
        eachPartHasItsNumbers();
        oneRestAtTheEnd();
        atMostOneEach();
        atMostFourTiers();
        eachTierAboveTheOneBefore();
        withPerNoTiers();
        lettersOfAWord();
        oneToFiveDigits();
        atLeastOne();
        Checks.finish();
    }

    private static void good(String text, int parts) {
        BillForge x = Checks.withText(text);
        Checks.due("tariff '" + text + "'", x.tariff(0), parts);
        Checks.due("THE TEXT behind '" + text + "'", x.count(4), 0);
        Checks.due("where behind '" + text + "'", x.where(), -2);
    }

    private static void bad(String... texts) {
        for (String text : texts) {
            BillForge x = Checks.withTariff("min 5;tier 3 2;rest 7");
            Checks.write(x, text);
            Checks.illegalArgument("tariff '" + text + "'", () -> x.tariff(0));
            Checks.due("THE TEXT stays: '" + text + "'", x.count(4), text.length());
            Checks.due("the least stays: '" + text + "'", x.use(0, 0), 5);
            Checks.due("the prices stay: '" + text + "'", x.use(0, 5), 20);
        }
    }

    private static void partsWithSemicolonsBetween() {
        Checks.sentence("It is PARTS with a ; between");
        good("rest 0", 1);
        good("fee 1;rest 0", 2);
        good("min 3;free 2;fee 1;rest 0", 4);
        good("tier 1 1;fee 1;tier 2 1;free 2;tier 3 1;min 1;rest 0", 7);
        bad("", ";", ";rest 0", "rest 0;", "fee 1;;rest 0", ";fee 1;rest 0", "fee 1;rest 0;", "fee 1;rest 0;;");
        bad("fee 1 rest 0", "fee 1rest 0", "fee 1,rest 0", "fee 1:rest 0", "fee 1", "fee 1;", "fee 1; ; rest 0");
    }

    private static void blanks() {
        Checks.sentence("(perhaps blanks before and behind each PART, and before each NUMBER)");
        good("rest0", 1);
        good(" rest 0", 1);
        good("rest 0 ", 1);
        good("   rest     99999   ", 1);
        good("fee1;free2;min3;per4 5;rest6", 5);
        good("  fee  1  ;  free  2  ;  per  3  4  ;  rest  5  ", 4);
        good("tier1 2;tier  3  4  ;rest5", 3);
        bad(" ", "   ", "fee 1 2;rest 0", "fee 1 ;rest 0 0", "rest 1 2", "rest_0");
        BillForge x = Checks.withTariff("per 3 4;rest 0");
        Checks.due("a blank is between two NUMBERS", x.use(0, 3), 4);
        bad("per 34;rest 0", "tier 34;rest 0");
    }

    private static void eachPartHasItsNumbers() {
        Checks.sentence("each one of: fee N; free N; min N; per N P; tier Q P; rest P;");
        bad("fee;rest 0", "free;rest 0", "min;rest 0", "per;rest 0", "tier;rest 0", "rest", "fee ;rest 0", "rest ");
        bad("per 1;rest 0", "tier 1;rest 0", "per 1 ;rest 0", "tier 1 ;rest 0");
        bad("fee 1 1;rest 0", "free 1 1;rest 0", "min 1 1;rest 0", "per 1 1 1;rest 0", "tier 1 1 1;rest 0", "rest 1 1");
        bad("1;rest 0", "1 fee;rest 0", "tax 1;rest 0", "fees 1;rest 0", "x;rest 0");
    }

    private static void oneRestAtTheEnd() {
        Checks.sentence("each TARIFF ends with one rest, which is there once, behind all tiers");
        good("fee 1;rest 0", 2);
        bad("fee 1", "free 1", "min 1", "per 1 1", "tier 1 1", "tier 1 1;tier 2 2");
        bad("rest 0;rest 0", "rest 0;fee 1", "rest 0;tier 1 1", "rest 0;per 1 1", "tier 1 1;rest 0;tier 2 1");
        bad("rest 0;tier 1 1;rest 0", "fee 1;rest 0;rest 0");
    }

    private static void atMostOneEach() {
        Checks.sentence("of fee, free, min, per at most one each");
        good("fee 0;free 0;min 0;per 1 0;rest 0", 5);
        bad("fee 1;fee 1;rest 0", "free 1;free 1;rest 0", "min 1;min 1;rest 0", "per 1 1;per 1 1;rest 0");
        bad("fee 0;fee 0;rest 0", "free 0;free 0;rest 0", "min 0;min 0;rest 0", "per 1 0;per 1 0;rest 0");
        bad("fee 1;free 1;fee 1;rest 0", "free 1;tier 1 1;free 1;rest 0", "min 1;per 1 1;min 1;rest 0");
        bad("per 1 1;min 1;per 1 1;rest 0");
    }

    private static void atMostFourTiers() {
        Checks.sentence("at most 4 tiers");
        good("tier 1 0;rest 0", 2);
        good("tier 1 0;tier 2 0;tier 3 0;rest 0", 4);
        good("tier 1 0;tier 2 0;tier 3 0;tier 4 0;rest 0", 5);
        bad("tier 1 0;tier 2 0;tier 3 0;tier 4 0;tier 5 0;rest 0");
        bad("tier 1 0;tier 2 0;tier 3 0;fee 1;tier 4 0;tier 5 0;rest 0");
    }

    private static void eachTierAboveTheOneBefore() {
        Checks.sentence("each Q above that of the tier before");
        good("tier 5 1;tier 6 1;rest 0", 3);
        good("tier 99998 1;tier 99999 1;rest 0", 3);
        good("tier 1 1;tier 99999 0;rest 0", 3);
        good("tier 9 1;tier 10 0;rest 0", 3);
        good("tier 5 1;fee 3;tier 6 1;rest 0", 4);
        bad("tier 5 1;tier 5 1;rest 0", "tier 5 1;tier 4 1;rest 0", "tier 99999 1;tier 99999 1;rest 0");
        bad("tier 10 1;tier 9 1;rest 0", "tier 5 1;tier 05 1;rest 0", "tier 1 1;tier 0 1;rest 0");
        bad("tier 5 1;fee 9;tier 5 1;rest 0", "tier 1 1;tier 5 1;tier 2 1;rest 0");
        bad("tier 1 1;tier 2 1;tier 3 1;tier 3 1;rest 0");
    }

    private static void withPerNoTiers() {
        Checks.sentence("with a per there are no tiers");
        good("per 1 1;rest 0", 2);
        bad("per 1 1;tier 1 1;rest 0", "tier 1 1;per 1 1;rest 0", "per 1 0;fee 1;tier 1 1;rest 0");
        bad("tier 1 0;fee 1;per 1 0;rest 0", "tier 1 1;tier 2 1;per 1 1;rest 0");
    }

    private static void lettersOfAWord() {
        Checks.sentence("The letters of a word stand without blanks in it.");
        bad("f ee 1;rest 0", "fe e 1;rest 0", "r est 0", "res t 0", "fre e 1;rest 0", "m in 1;rest 0", "pe r 1 1;rest 0");
        bad("t ier 1 1;rest 0", "fee 1;re st 0");
        bad("Fee 1;rest 0", "FEE 1;rest 0", "fee 1;Rest 0", "fe 1;rest 0", "fre 1;rest 0", "freee 1;rest 0", "rests 0");
    }

    private static void oneToFiveDigits() {
        Checks.sentence("NUMBERS: one to five digits");
        String[] parts = {"fee N", "free N", "min N", "per N 1", "per 1 N", "tier N 1", "tier 1 N"};
        for (String part : parts) {
            String text = part + ";rest 0";
            for (String number : new String[] {"1", "12", "123", "1234", "12345", "99999", "00001"}) {
                good(text.replace("N", number), 2);
            }
            for (String number : new String[] {"", "123456", "000001", "1234567", "-1", "+1", "1.5", "1,5", "a", "0x1"}) {
                bad(text.replace("N", number));
            }
        }
        for (String number : new String[] {"0", "00000", "99999"}) {
            good("rest " + number, 1);
        }
        bad("rest", "rest 100000", "rest 000000", "rest -1", "rest 1.0", "rest x");
        Checks.due("the greatest NUMBER", Checks.withTariff("rest 99999").use(0, 1), 99999);
        Checks.due("zeros before it", Checks.withTariff("rest 00012").use(0, 1), 12);
    }

    private static void atLeastOne() {
        Checks.sentence("N of per, and Q, at least 1.");
        good("per 1 0;rest 0", 2);
        good("tier 1 0;rest 0", 2);
        good("per 00001 00000;rest 00000", 2);
        good("fee 0;free 0;min 0;rest 0", 4);
        bad("per 0 1;rest 0", "per 00000 1;rest 0", "tier 0 1;rest 0", "tier 00000 1;rest 0");
    }
}
