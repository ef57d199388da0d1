/** Promise 6: subscribe. */
public final class P06SubscribeTest {
    public static void main(String[] args) {
        answersWhatWasThere();
        endsThePause();
        daysKeepWhatTheyHad();
        withStageThree();
        wrongNumbers();
        Checks.finish();
    }

    private static void answersWhatWasThere() {
        BillForge x = new BillForge();
        Checks.due("first", x.subscribe(4, 2), -1);
        Checks.due("told", x.told(4, 0), 2);
        Checks.due("second", x.subscribe(4, 0), 2);
        Checks.due("the same", x.subscribe(4, 0), 0);
        Checks.due("none", x.subscribe(4, -1), 0);
        Checks.due("none again", x.subscribe(4, -1), -1);
        Checks.due("told none", x.told(4, 0), -1);
        Checks.due("others have none", x.told(3, 0), -1);
    }

    private static void endsThePause() {
        BillForge x = new BillForge();
        x.subscribe(0, 0);
        x.pause(0, true);
        Checks.due("the same TARIFF", x.subscribe(0, 0), 0);
        Checks.due("PAUSED", x.told(0, 1), 0);
        x.pause(0, true);
        x.subscribe(0, -1);
        Checks.due("PAUSED with none", x.told(0, 1), 0);
    }

    private static void daysKeepWhatTheyHad() {
        BillForge x = Checks.withTariff("fee 310;rest 0");
        Checks.setTariff(x, 1, "fee 3100;rest 0");
        x.subscribe(0, 0);
        x.tick(10);
        x.subscribe(0, 1);
        Checks.due("TODAY is of the new one", x.charge(0, 0), 100 + 100);
        x.subscribe(0, 0);
        Checks.due("TODAY is as it is now", x.charge(0, 0), 110);
        x.subscribe(0, -1);
        Checks.due("TODAY is of none", x.charge(0, 0), 100);
        x.subscribe(0, 1);
        x.tick(21);
        Checks.due("both have days", x.charge(0, 0), 100 + 2100);
    }

    private static void withStageThree() {
        BillForge x = Checks.withTariff("fee 1000;rest 0");
        x.subscribe(0, 0);
        x.tick(31);
        x.run();
        Checks.tickTo(x, 66);
        Checks.due("STAGE", x.told(0, 2), 3);
        Checks.due("another TARIFF", x.subscribe(0, 1), 0);
        Checks.due("stays PAUSED", x.told(0, 1), 1);
        Checks.due("no TARIFF", x.subscribe(0, -1), 1);
        Checks.due("stays PAUSED, too", x.told(0, 1), 1);
        x.pay(0, 1000);
        Checks.due("not any more", x.told(0, 1), 0);
    }

    private static void wrongNumbers() {
        BillForge x = new BillForge();
        Checks.illegalArgument("c -1", () -> x.subscribe(-1, 0));
        Checks.illegalArgument("c 5", () -> x.subscribe(5, 0));
        Checks.illegalArgument("t -2", () -> x.subscribe(0, -2));
        Checks.illegalArgument("t 3", () -> x.subscribe(0, 3));
        Checks.due("nothing changed", x.told(0, 0), -1);
    }
}
