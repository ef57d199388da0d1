/** Promise 8: event, and of promise 19 the order of its tests. */
public final class P08EventTest {
    public static void main(String[] args) {
        keys();
        daysThatCount();
        eightyAreTheMost();
        wrongNumbers();
        Checks.finish();
    }

    private static void keys() {
        BillForge x = Checks.withTariff("rest 1");
        x.subscribe(0, 0);
        Checks.due("first", x.event(Integer.MIN_VALUE, 0, 0, 5), 1);
        Checks.due("second", x.event(Integer.MAX_VALUE, 0, 0, 10000), 2);
        Checks.due("KEY 0", x.event(0, 0, 0, 1), 3);
        Checks.due("KEY -1", x.event(-1, 1, 0, 1), 4);
        Checks.due("same KEY", x.event(0, 0, 0, 900), 0);
        Checks.due("same KEY, another CUSTOMER", x.event(0, 1, 0, 900), 0);
        Checks.due("it stays as it is", x.charge(0, 0), 10006);
        Checks.due("how many", x.count(1), 4);
    }

    private static void daysThatCount() {
        BillForge x = new BillForge();
        outside(x, 1);
        outside(x, -1);
        x.tick(40);
        outside(x, -1);
        Checks.due("DAY 0", x.event(1, 0, 0, 1), 1);
        x.tick(5);
        Checks.due("45 below", x.event(2, 0, 0, 1), 2);
        x.tick(1);
        outside(x, 0);
        Checks.due("45 below again", x.event(3, 0, 1, 1), 3);
        Checks.due("TODAY", x.event(4, 0, 46, 1), 4);
        outside(x, 47);
        outside(x, Integer.MAX_VALUE);
        outside(x, Integer.MIN_VALUE);
        Checks.due("how many", x.count(1), 4);
        Checks.throwing("the DAY is tested before the KEY", IndexOutOfBoundsException.class, () -> x.event(1, 0, 0, 1));
    }

    private static void outside(BillForge x, int day) {
        Checks.throwing("DAY " + day, IndexOutOfBoundsException.class, () -> x.event(99, 0, day, 1));
    }

    private static void eightyAreTheMost() {
        BillForge x = new BillForge();
        for (int i = 1; i <= 80; i++) {
            Checks.due("EVENT " + i, x.event(-i, i % 5, 0, i), i);
        }
        Checks.illegalState("one more", () -> x.event(1, 0, 0, 1));
        Checks.due("the KEY is tested before", x.event(-80, 0, 0, 1), 0);
        Checks.throwing("and the DAY", IndexOutOfBoundsException.class, () -> x.event(1, 0, 1, 1));
        Checks.illegalArgument("and the UNITS", () -> x.event(1, 0, 0, 0));
        Checks.due("how many", x.count(1), 80);
        Checks.setTariff(x, 0, "rest 1");
        x.subscribe(0, 0);
        Checks.due("all of them count", x.charge(0, 0), 5 * 16 * 17 / 2);
    }

    private static void wrongNumbers() {
        BillForge x = new BillForge();
        x.event(1, 0, 0, 1);
        Checks.illegalArgument("c -1", () -> x.event(2, -1, 0, 1));
        Checks.illegalArgument("c 5", () -> x.event(2, 5, 0, 1));
        Checks.illegalArgument("units 0", () -> x.event(2, 0, 0, 0));
        Checks.illegalArgument("units 10001", () -> x.event(2, 0, 0, 10001));
        Checks.illegalArgument("tested before the DAY", () -> x.event(2, 5, 9, 1));
        Checks.illegalArgument("tested before the KEY", () -> x.event(1, 0, 0, 0));
        Checks.due("nothing changed", x.count(1), 1);
    }
}
