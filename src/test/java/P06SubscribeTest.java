/** Promise 6: subscribe, and of the terms what a SUBSCRIPTION is on each DAY. */
public final class P06SubscribeTest {
    public static void main(String[] args) {
        answersWhatWasThere();
        fromTheFirstToTheLastOfEach();
        endsThePause();
        withStageThree();
        withStageTwo();
        daysThatWentByStayAsTheyWere();
        todayIsAsItIsNow();
        theTariffIsAsItIsWrittenNow();
        onTheLastDay();
        wrongNumbers();
        Checks.finish();
    }

    private static void answersWhatWasThere() {
        Checks.sentence("the TARIFF it had, -1 for none");
        BillForge x = new BillForge();
        Checks.due("first", x.subscribe(4, 2), -1);
        Checks.due("told", x.told(4, 0), 2);
        Checks.due("second", x.subscribe(4, 0), 2);
        Checks.due("the same", x.subscribe(4, 0), 0);
        Checks.due("none", x.subscribe(4, -1), 0);
        Checks.due("none again", x.subscribe(4, -1), -1);
        Checks.due("told none", x.told(4, 0), -1);
        Checks.due("a TARIFF again", x.subscribe(4, 1), -1);
        Checks.due("others have none", x.told(3, 0), -1);
    }

    private static void fromTheFirstToTheLastOfEach() {
        Checks.sentence("The SUBSCRIPTION of CUSTOMER c has TARIFF t from now on (-1: none)");
        BillForge x = new BillForge();
        for (int c = 0; c <= 4; c++) {
            int had = -1;
            for (int t = -1; t <= 2; t++) {
                Checks.due("subscribe " + c + " " + t, x.subscribe(c, t), had);
                Checks.due("told " + c, x.told(c, 0), t);
                had = t;
            }
        }
        x.subscribe(0, -1);
        for (int c = 1; c <= 4; c++) {
            Checks.due("others keep theirs: " + c, x.told(c, 0), 2);
        }
    }

    private static void endsThePause() {
        Checks.sentence("and is not PAUSED");
        for (int t = -1; t <= 2; t++) {
            BillForge x = new BillForge();
            x.subscribe(0, 0);
            x.pause(0, true);
            x.subscribe(1, 0);
            x.pause(1, true);
            Checks.due("subscribe " + t, x.subscribe(0, t), 0);
            Checks.due("PAUSED with " + t, x.told(0, 1), 0);
            Checks.due("another stays PAUSED", x.told(1, 1), 1);
        }
    }

    private static void withStageThree() {
        Checks.sentence("and is not PAUSED, but with STAGE 3");
        for (int t = -1; t <= 2; t++) {
            BillForge x = Fixtures.owingFor(35);
            Checks.due("STAGE", x.told(0, 2), 3);
            Checks.due("subscribe " + t, x.subscribe(0, t), 0);
            Checks.toldIs(x, 0, t, 1, 3);
            x.tick(1);
            Checks.toldIs(x, 0, t, 1, 3);
            x.pay(0, 310);
            Checks.toldIs(x, 0, t, 0, 0);
        }
    }

    private static void withStageTwo() {
        Checks.sentence("and is not PAUSED, but with STAGE 3");
        BillForge x = Fixtures.owingFor(34);
        x.pause(0, true);
        Checks.toldIs(x, 0, 0, 1, 2);
        x.subscribe(0, 0);
        Checks.toldIs(x, 0, 0, 0, 2);
    }

    /** TARIFF 0 costs 10 for a DAY of January, TARIFF 1 costs 100. */
    private static BillForge twoTariffs() {
        BillForge x = Checks.withTariff("fee 310;rest 0");
        Checks.setTariff(x, 1, "fee 3100;rest 0");
        return x;
    }

    private static void daysThatWentByStayAsTheyWere() {
        Checks.sentence("as they were when that DAY went by (before TODAY)");
        BillForge x = twoTariffs();
        x.tick(1);
        Checks.due("a DAY with none", x.charge(0, 0), 0);
        x.subscribe(0, 0);
        Checks.due("it stays so", x.charge(0, 0), 10);
        x.tick(10);
        x.subscribe(0, 1);
        x.tick(10);
        x.subscribe(0, -1);
        Checks.due("ten DAYS of each", x.charge(0, 0), 100 + 1000);
        x.tick(9);
        x.subscribe(0, 0);
        Checks.due("and TODAY, the last of January", x.charge(0, 0), 110 + 1000);
        x.tick(1);
        Checks.due("that went by", x.charge(0, 0), 110 + 1000);
        x.subscribe(0, 1);
        x.pause(0, true);
        Checks.due("what is now is not of January", x.charge(0, 0), 110 + 1000);
    }

    private static void todayIsAsItIsNow() {
        Checks.sentence("as they were when that DAY went by (before TODAY), or are now");
        BillForge x = twoTariffs();
        x.subscribe(0, 0);
        x.subscribe(0, 1);
        Checks.due("the last one on DAY 0", x.charge(0, 0), 100);
        x.subscribe(0, 0);
        x.tick(1);
        Checks.due("what it was when the DAY went by", x.charge(0, 0), 20);
        x.subscribe(0, 1);
        Checks.due("TODAY is of the new one", x.charge(0, 0), 10 + 100);
        x.pause(0, true);
        Checks.due("TODAY is PAUSED", x.charge(0, 0), 10);
        x.subscribe(0, -1);
        Checks.due("TODAY is of none", x.charge(0, 0), 10);
        x.tick(1);
        Checks.due("which went by so", x.charge(0, 0), 10);
    }

    private static void theTariffIsAsItIsWrittenNow() {
        Checks.sentence("(A TARIFF counts as it is written now.)");
        BillForge x = twoTariffs();
        x.subscribe(0, 0);
        x.tick(31);
        x.subscribe(0, -1);
        Checks.due("as it was", x.charge(0, 0), 310);
        Checks.setTariff(x, 0, "fee 31;min 1;rest 0");
        Checks.due("also for DAYS that went by", x.charge(0, 0), 32);
        Checks.setTariff(x, 0, "rest 0");
        Checks.due("down to nothing", x.charge(0, 0), 0);
    }

    private static void onTheLastDay() {
        Checks.sentence("The SUBSCRIPTION of CUSTOMER c has TARIFF t from now on");
        BillForge x = Checks.withTariff("fee 2800;rest 0");
        Checks.tickTo(x, 400);
        Checks.due("subscribe on DAY 400", x.subscribe(3, 0), -1);
        Checks.due("DAY 400 is LIVE", x.charge(3, 13), 100);
        Checks.due("none before it", x.charge(3, 12), 0);
    }

    private static void wrongNumbers() {
        Checks.sentence("IllegalArgumentException if a number is not as said.");
        int[] wrongCustomers = {-1, 5, Integer.MIN_VALUE, Integer.MAX_VALUE};
        int[] wrongTariffs = {-2, 3, Integer.MIN_VALUE, Integer.MAX_VALUE};
        for (int c : wrongCustomers) {
            Checks.refusedArgument("CUSTOMER " + c, Fixtures::busy, x -> x.subscribe(c, 0));
            Checks.refusedArgument("CUSTOMER " + c + " with none", Fixtures::busy, x -> x.subscribe(c, -1));
            Checks.refusedArgument("CUSTOMER " + c + " and a wrong TARIFF", Fixtures::busy, x -> x.subscribe(c, 3));
        }
        for (int t : wrongTariffs) {
            for (int c = 0; c <= 4; c++) {
                int of = c;
                Checks.refusedArgument("TARIFF " + t + " of " + c, Fixtures::busy, x -> x.subscribe(of, t));
            }
        }
    }
}
