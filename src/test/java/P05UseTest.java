/** Promise 5: use, and of the terms how UNITS are priced. */
public final class P05UseTest {
    public static void main(String[] args) {
        lessThoseThatAreFree();
        byTiers();
        aboveAllTiers();
        byPer();
        restIsNotLookedAtWithPer();
        notLessThanMin();
        withoutDays();
        theMostUnits();
        wrongNumbers();
        Checks.finish();
    }

    private static void row(String tariff, long... unitsAndUse) {
        for (int t = 0; t <= 2; t++) {
            BillForge x = new BillForge();
            Checks.setTariff(x, t, tariff);
            for (int i = 0; i < unitsAndUse.length; i += 2) {
                long units = unitsAndUse[i];
                Checks.due("use of " + units + " by " + tariff, x.use(t, (int) units), unitsAndUse[i + 1]);
            }
        }
    }

    private static void lessThoseThatAreFree() {
        Checks.sentence("v is u less those that are FREE (0 if that is below 0).");
        row("rest 3", 0, 0, 1, 3, 2, 6);
        row("free 0;rest 3", 0, 0, 1, 3);
        row("free 1;rest 3", 0, 0, 1, 0, 2, 3);
        row("free 10;rest 3", 0, 0, 9, 0, 10, 0, 11, 3);
        row("free 99999;rest 3", 0, 0, 99998, 0, 99999, 0, 100000, 3, 1000000, 2700003);
        row("free 10;per 5 3;rest 0", 0, 0, 9, 0, 10, 0, 11, 3, 15, 3, 16, 6);
        row("free 10;tier 5 3;rest 1", 9, 0, 10, 0, 11, 3, 15, 15, 16, 16);
    }

    private static void byTiers() {
        Checks.sentence("each UNIT of the v up to the first Q costs that P, those above it up to the second Q the second P");
        row("tier 1 9;rest 1", 0, 0, 1, 9, 2, 10);
        row("tier 10 5;rest 1", 0, 0, 9, 45, 10, 50, 11, 51);
        row("tier 10 5;tier 11 3;rest 1", 10, 50, 11, 53, 12, 54);
        row("tier 1 9;tier 3 7;tier 6 5;tier 10 3;rest 1", 0, 0, 1, 9, 2, 16, 3, 23, 4, 28, 6, 38, 7, 41, 10, 50, 11, 51);
        row("tier 5 0;tier 10 7;rest 0", 5, 0, 6, 7, 10, 35, 11, 35);
        row("free 2;tier 10 5;rest 1", 2, 0, 3, 5, 12, 50, 13, 51);
        row("tier 5 1;tier 10 9;rest 30", 5, 5, 6, 14, 10, 50, 11, 80);
    }

    private static void aboveAllTiers() {
        Checks.sentence("those above all the P of rest.");
        row("tier 99999 1;rest 2", 99999, 99999, 100000, 100001);
        row("tier 99998 1;tier 99999 5;rest 2", 99998, 99998, 99999, 100003, 100000, 100005);
        row("tier 4 3;rest 0", 4, 12, 5, 12, 1000000, 12);
        row("rest 99999", 0, 0, 1, 99999);
    }

    private static void byPer() {
        Checks.sentence("each N of the v, and what is left of them if it is not 0, costs P");
        row("per 1 7;rest 0", 0, 0, 1, 7, 2, 14);
        row("per 10 99;rest 5", 0, 0, 1, 99, 9, 99, 10, 99, 11, 198, 20, 198, 21, 297);
        row("per 99999 1;rest 0", 0, 0, 1, 1, 99998, 1, 99999, 1, 100000, 2, 1000000, 11);
        row("per 2 0;rest 9", 0, 0, 1, 0, 3, 0);
    }

    private static void restIsNotLookedAtWithPer() {
        Checks.sentence("(rest is not looked at)");
        row("per 10 99;rest 99999", 0, 0, 1, 99, 10, 99, 11, 198, 1000000, 9900000);
    }

    private static void notLessThanMin() {
        Checks.sentence("The USE is that, but not less than MIN.");
        row("min 0;rest 3", 0, 0, 1, 3);
        row("min 1;rest 0", 0, 1, 1000000, 1);
        row("min 6;rest 3", 0, 6, 1, 6, 2, 6, 3, 9);
        row("min 7;rest 3", 0, 7, 2, 7, 3, 9);
        row("min 99999;rest 1", 0, 99999, 99998, 99999, 99999, 99999, 100000, 100000);
        row("free 5;min 100;per 10 99;rest 5", 0, 100, 5, 100, 15, 100, 16, 198);
        row("min 50;tier 10 5;rest 1", 9, 50, 10, 50, 11, 51);
        row("min 99999;free 99999;rest 1", 99999, 99999, 199998, 99999, 199999, 100000);
    }

    private static void withoutDays() {
        Checks.sentence("without days: FREE and MIN are whole.");
        BillForge x = Checks.withTariff("fee 500;free 10;min 7;rest 3");
        for (int day = 0; day < 3; day++) {
            Checks.due("MIN on DAY " + day, x.use(0, 0), 7);
            Checks.due("FREE on DAY " + day, x.use(0, 13), 9);
            x.subscribe(0, 0);
            x.event(day, 0, day, 100);
            x.tick(1);
        }
        x.pause(0, true);
        Checks.due("PAUSED or not", x.use(0, 13), 9);
    }

    private static void theMostUnits() {
        Checks.sentence("for so many UNITS (0 to 1000000)");
        row("rest 99999", 0, 0, 1000000, 99999000000L);
        row("per 1 99999;rest 0", 0, 0, 1000000, 99999000000L);
        row("tier 99999 99999;rest 99999", 0, 0, 1000000, 99999000000L);
        row("tier 1 0;rest 99999", 1000000, 99998900001L);
        row("free 1;rest 99999", 1000000, 99998900001L);
    }

    private static void wrongNumbers() {
        Checks.sentence("IllegalArgumentException if a number is not as said.");
        int[] wrongTariffs = {-1, 3, Integer.MIN_VALUE, Integer.MAX_VALUE};
        int[] wrongUnits = {-1, 1000001, Integer.MIN_VALUE, Integer.MAX_VALUE};
        for (int t : wrongTariffs) {
            Checks.refusedArgument("TARIFF " + t, Fixtures::busy, x -> x.use(t, 0));
            Checks.refusedArgument("TARIFF " + t + " and many", BillForge::new, x -> x.use(t, 1000000));
            Checks.refusedArgument("TARIFF " + t + " and wrong UNITS", BillForge::new, x -> x.use(t, -1));
        }
        for (int units : wrongUnits) {
            for (int t = 0; t <= 2; t++) {
                int of = t;
                Checks.refusedArgument("UNITS " + units + " of " + t, Fixtures::busy, x -> x.use(of, units));
                Checks.refusedArgument("UNITS " + units + " of rest 0", BillForge::new, x -> x.use(of, units));
            }
        }
    }
}
