/** Promise 3: tariff. What is a TARIFF stands in TermsTextTest. */
public final class P03TariffTest {
    public static void main(String[] args) {
        answersHowManyParts();
        emptiesTheText();
        tariffsAreZeroToTwo();
        wrongTariffs();
        noTariffInTheText();
        emptyText();
        aNewOneTakesTheOldOnesPlace();
        Checks.finish();
    }

    private static void answersHowManyParts() {
        Checks.sentence("TARIFF t (0 to 2) becomes as THE TEXT says [...]: how many PARTS.");
        parts("rest 0", 1);
        parts("fee 1;rest 0", 2);
        parts("fee 1;free 1;rest 0", 3);
        parts("fee 1;free 1;min 1;rest 0", 4);
        parts("fee 1;free 1;min 1;per 1 1;rest 0", 5);
        parts("tier 1 1;tier 2 1;tier 3 1;tier 4 1;rest 0", 5);
        parts("fee1;free1;tier1 1;tier2 1;tier3 1;tier4 1;rest1", 7);
        parts("fee1;free1;min1;tier1 1;tier2 1;tier3 1;tier4 1;rest1", 8);
        parts("fee 1;free 1;min1;tier 1 1;tier 2 1;tier 3 1;tier 4 1;rest 1", 8);
    }

    private static void parts(String text, int due) {
        for (int t = 0; t <= 2; t++) {
            int of = t;
            Checks.due("tariff " + of + " '" + text + "'", Checks.withText(text).tariff(of), due);
        }
    }

    private static void emptiesTheText() {
        Checks.sentence("which is empty then");
        BillForge x = Checks.withText("rest 4");
        x.tariff(1);
        Checks.due("characters", x.count(4), 0);
        Checks.illegalArgument("an empty one is no TARIFF", () -> x.tariff(1));
        Checks.due("TARIFF 1 stays", x.use(1, 2), 8);
        Checks.due("the next begins anew", x.text('r'), 1);
    }

    private static void tariffsAreZeroToTwo() {
        Checks.sentence("TARIFF t (0 to 2)");
        BillForge x = new BillForge();
        for (int t = 0; t <= 2; t++) {
            Checks.write(x, "rest 1" + t);
            Checks.due("tariff " + t, x.tariff(t), 1);
        }
        for (int t = 0; t <= 2; t++) {
            Checks.due("each is its own: " + t, x.use(t, 1), 10 + t);
        }
    }

    private static void wrongTariffs() {
        Checks.sentence("IllegalArgumentException if t is not as said [...]; nothing changes then.");
        int[] wrong = {-1, 3, 4, Integer.MIN_VALUE, Integer.MAX_VALUE};
        for (int t : wrong) {
            refusedTariff("tariff " + t, Fixtures::busy, t);
            refusedTariff("tariff " + t + " of a full object", Fixtures::full, t);
            refusedTariff("tariff " + t + " of no TEXT", BillForge::new, t);
        }
    }

    private static void noTariffInTheText() {
        Checks.sentence("IllegalArgumentException if [...] it is no TARIFF; nothing changes then.");
        String[] texts = {" ", ";", "rest", "rest 5;", "fee 9", "fee 9;free 9;min 9;tier 9 9;rest", "per 9 9;rest 0 x"};
        for (String text : texts) {
            for (int t = 0; t <= 2; t++) {
                refusedTariff("tariff " + t + " '" + text + "'", () -> priced(text), t);
            }
        }
        refusedTariff("60 characters", () -> priced("fee 9;min 9;" + " ".repeat(48)), 0);
    }

    /** Three TARIFFS in use, and a TEXT. */
    private static BillForge priced(String text) {
        BillForge x = new BillForge();
        Checks.setTariff(x, 0, "fee 310;min 5;tier 3 2;rest 7");
        Checks.setTariff(x, 1, "free 3;per 10 9;rest 7");
        Checks.setTariff(x, 2, "rest 1");
        for (int t = 0; t <= 2; t++) {
            x.subscribe(t, t);
            x.event(t, t, 0, 40);
        }
        Checks.write(x, text);
        return x;
    }

    private static void emptyText() {
        Checks.sentence("IllegalArgumentException if [...] it is no TARIFF; nothing changes then.");
        for (int t = 0; t <= 2; t++) {
            refusedTariff("tariff " + t + " of no TEXT", () -> priced(""), t);
            refusedTariff("tariff " + t + " of a new object", BillForge::new, t);
        }
    }

    /** Only where may change, which promise 4 tells. */
    private static void refusedTariff(String what, Checks.Making making, int t) {
        BillForge x = making.made();
        Checks.illegalArgument(what, () -> x.tariff(t));
        Checks.sameState(what, x, making.made());
    }

    private static void aNewOneTakesTheOldOnesPlace() {
        Checks.sentence("TARIFF t (0 to 2) becomes as THE TEXT says");
        BillForge x = new BillForge();
        Checks.setTariff(x, 1, "fee 31;free 2;min 100;tier 10 3;rest 1");
        Checks.setTariff(x, 2, "per 10 40;rest 0");
        Checks.due("TARIFF 1", x.use(1, 100), 118);
        Checks.due("TARIFF 2", x.use(2, 100), 400);
        Checks.due("TARIFF 0", x.use(0, 100), 0);
        x.subscribe(0, 1);
        Checks.due("its fee and MIN", x.charge(0, 0), 1 + 3);
        Checks.setTariff(x, 1, "rest 2");
        Checks.due("no part of the old one is left", x.use(1, 11), 22);
        Checks.due("nor the least", x.use(1, 0), 0);
        Checks.due("nor the fee", x.charge(0, 0), 0);
        Checks.setTariff(x, 2, "rest 2");
        Checks.due("nor per", x.use(2, 11), 22);
        Checks.setTariff(x, 2, "per 10 40;rest 3");
        Checks.due("nor rest", x.use(2, 1), 40);
        Checks.setTariff(x, 2, "tier 1 5;rest 3");
        Checks.setTariff(x, 2, "tier 2 6;tier 3 7;rest 4");
        Checks.due("nor a tier", x.use(2, 4), 12 + 7 + 4);
    }
}
