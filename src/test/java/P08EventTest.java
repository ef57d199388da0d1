/** Promise 8: event, and of promise 19 the order of its tests. */
public final class P08EventTest {
    public static void main(String[] args) {
        answersHowManyThereAre();
        anyIntIsAKey();
        aKeyThatIsThere();
        customers();
        units();
        aboveToday();
        moreThanFortyFiveBelow();
        belowZero();
        eightyAreTheMost();
        theKeyIsTestedBeforeTheEighty();
        theDayIsTestedBeforeTheKey();
        theNumbersAreTestedFirst();
        aRefusedKeyIsNotThere();
        Checks.finish();
    }

    private static void answersHowManyThereAre() {
        Checks.sentence("An EVENT: how many there are");
        BillForge x = Checks.withTariff("rest 1");
        x.subscribe(0, 0);
        Checks.due("first", x.event(10, 0, 0, 1), 1);
        Checks.due("second", x.event(20, 0, 0, 20), 2);
        Checks.due("of another CUSTOMER", x.event(30, 1, 0, 300), 3);
        Checks.due("how many", x.count(1), 3);
        Checks.due("CHARGE", x.charge(0, 0), 21);
    }

    private static void anyIntIsAKey() {
        Checks.sentence("EVENTS have a KEY (any int)");
        int[] keys = {0, -1, 1, Integer.MIN_VALUE, Integer.MAX_VALUE, Integer.MIN_VALUE + 1, 1 << 16, 1 << 8, 80};
        BillForge x = new BillForge();
        for (int i = 0; i < keys.length; i++) {
            Checks.due("KEY " + keys[i], x.event(keys[i], 0, 0, 1), i + 1);
            Checks.due("KEY " + keys[i] + " again", x.event(keys[i], 0, 0, 1), 0);
        }
    }

    private static BillForge withKeySeven() {
        BillForge x = Checks.withTariff("rest 1");
        Checks.setTariff(x, 1, "rest 1");
        x.subscribe(0, 0);
        x.subscribe(1, 1);
        x.tick(31);
        x.event(7, 0, 30, 5);
        return x;
    }

    private static void aKeyThatIsThere() {
        Checks.sentence("0 if one with this KEY is there, which stays as it is");
        int[][] others = {{0, 30, 5}, {1, 30, 5}, {0, 31, 5}, {0, 30, 10000}, {4, 0, 1}};
        for (int[] other : others) {
            BillForge x = withKeySeven();
            Checks.due("the KEY again", x.event(7, other[0], other[1], other[2]), 0);
            Checks.due("how many", x.count(1), 1);
            Checks.due("CHARGE", x.charge(0, 0), 5);
            Checks.due("CHARGE of the next PERIOD", x.charge(0, 1), 0);
            Checks.due("CHARGE of another", x.charge(1, 0), 0);
            Checks.sameState("the KEY again", x, withKeySeven());
        }
        BillForge x = withKeySeven();
        Checks.tickTo(x, 80);
        Checks.due("the KEY of an old one", x.event(7, 0, 80, 1), 0);
    }

    private static void customers() {
        Checks.sentence("IllegalArgumentException if c is not 0 to 4");
        BillForge x = Checks.withTariff("rest 1");
        for (int c = 0; c <= 4; c++) {
            x.subscribe(c, 0);
            Checks.due("CUSTOMER " + c, x.event(c, c, 0, c + 1), c + 1);
        }
        for (int c = 0; c <= 4; c++) {
            Checks.due("CHARGE of " + c, x.charge(c, 0), c + 1);
        }
        int[] wrong = {-1, 5, Integer.MIN_VALUE, Integer.MAX_VALUE};
        for (int c : wrong) {
            Checks.refusedArgument("CUSTOMER " + c, Fixtures::busy, y -> y.event(9, c, 82, 1));
            Checks.refusedArgument("CUSTOMER " + c + " on DAY 0", BillForge::new, y -> y.event(9, c, 0, 1));
        }
    }

    private static void units() {
        Checks.sentence("IllegalArgumentException if [...] units not 1 to 10000");
        BillForge x = Checks.withTariff("rest 1");
        x.subscribe(0, 0);
        Checks.due("1 UNIT", x.event(1, 0, 0, 1), 1);
        Checks.due("CHARGE", x.charge(0, 0), 1);
        Checks.due("10000 UNITS", x.event(2, 0, 0, 10000), 2);
        Checks.due("CHARGE of both", x.charge(0, 0), 10001);
        int[] wrong = {0, -1, 10001, Integer.MIN_VALUE, Integer.MAX_VALUE};
        for (int units : wrong) {
            Checks.refusedArgument("UNITS " + units, Fixtures::busy, y -> y.event(9, 0, 82, units));
            Checks.refusedArgument("UNITS " + units + " on DAY 0", BillForge::new, y -> y.event(9, 0, 0, units));
        }
    }

    private static BillForge on(int day) {
        BillForge x = new BillForge();
        Checks.tickTo(x, day);
        return x;
    }

    private static void aboveToday() {
        Checks.sentence("IndexOutOfBoundsException if day is above TODAY");
        int[] todays = {0, 1, 31, 44, 45, 46, 399, 400};
        for (int today : todays) {
            Checks.due("on TODAY " + today, on(today).event(1, 0, today, 1), 1);
            Checks.refusedDay("one above " + today, () -> on(today), x -> x.event(1, 0, today + 1, 1));
        }
        Checks.refusedDay("far above", Fixtures::busy, x -> x.event(9, 0, Integer.MAX_VALUE, 1));
        Checks.refusedDay("one above", Fixtures::busy, x -> x.event(9, 0, 83, 1));
    }

    private static void moreThanFortyFiveBelow() {
        Checks.sentence("or more than 45 below it");
        int[] todays = {46, 47, 82, 366, 400};
        for (int today : todays) {
            Checks.due("45 below " + today, on(today).event(1, 0, today - 45, 1), 1);
            Checks.due("44 below " + today, on(today).event(1, 0, today - 44, 1), 1);
            Checks.refusedDay("46 below " + today, () -> on(today), x -> x.event(1, 0, today - 46, 1));
            Checks.refusedDay("DAY 0 on " + today, () -> on(today), x -> x.event(1, 0, 0, 1));
        }
        Checks.refusedDay("46 below", Fixtures::busy, x -> x.event(9, 0, 36, 1));
        Checks.due("45 below", Fixtures.busy().event(9, 0, 37, 1), 5);
        for (int today = 0; today <= 45; today++) {
            Checks.due("DAY 0 on " + today, on(today).event(1, 0, 0, 1), 1);
        }
    }

    private static void belowZero() {
        Checks.sentence("or below 0");
        int[] todays = {0, 1, 44, 45, 46, 400};
        for (int today : todays) {
            Checks.refusedDay("DAY -1 on " + today, () -> on(today), x -> x.event(1, 0, -1, 1));
            Checks.refusedDay("the least on " + today, () -> on(today), x -> x.event(1, 0, Integer.MIN_VALUE, 1));
        }
        Checks.refusedDay("DAY -1", Fixtures::busy, x -> x.event(9, 0, -1, 1));
        Checks.refusedDay("one above the least", Fixtures::busy, x -> x.event(9, 0, Integer.MIN_VALUE + 1, 1));
    }

    private static void eightyAreTheMost() {
        Checks.sentence("IllegalStateException if there are 80");
        BillForge x = Checks.withTariff("rest 1");
        x.subscribe(0, 0);
        for (int i = 1; i <= 80; i++) {
            Checks.due("EVENT " + i, x.event(-i, i % 5, 0, i), i);
        }
        Checks.illegalState("one more", () -> x.event(1, 0, 0, 1));
        Checks.due("how many", x.count(1), 80);
        Checks.due("all of them count", x.charge(0, 0), 5 * 16 * 17 / 2);
        Checks.refusedState("one more", Fixtures::full, y -> y.event(81, 0, 400, 1));
        Checks.refusedState("one more, the greatest", Fixtures::full, y -> y.event(Integer.MAX_VALUE, 4, 355, 10000));
    }

    private static void theKeyIsTestedBeforeTheEighty() {
        Checks.sentence("IllegalStateException if there are 80 (tested behind the KEY)");
        for (int key = 1; key <= 80; key += 79) {
            BillForge x = Fixtures.full();
            Checks.due("KEY " + key + " of 80", x.event(key, 0, 400, 1), 0);
            Checks.sameState("KEY " + key + " of 80", x, Fixtures.full());
        }
    }

    private static void theDayIsTestedBeforeTheKey() {
        Checks.sentence("event: the DAY is tested before the KEY.");
        Checks.refusedDay("above TODAY", Fixtures::busy, x -> x.event(1, 0, 83, 1));
        Checks.refusedDay("46 below TODAY", Fixtures::busy, x -> x.event(1, 0, 36, 1));
        Checks.refusedDay("below 0", Fixtures::busy, x -> x.event(1, 0, -1, 1));
        Checks.refusedDay("the very DAY that it has", Fixtures::busy, x -> x.event(1, 1, 0, 45));
        Checks.refusedDay("with 80", Fixtures::full, x -> x.event(1, 0, 401, 1));
        Checks.refusedDay("another KEY with 80", Fixtures::full, x -> x.event(81, 0, 401, 1));
        Checks.due("the KEY then", Fixtures.busy().event(1, 0, 37, 1), 0);
    }

    private static void theNumbersAreTestedFirst() {
        Checks.sentence("IllegalArgumentException if [...]; IndexOutOfBoundsException if [...]; IllegalStateException if [...]");
        Checks.refusedArgument("CUSTOMER before the DAY", Fixtures::busy, x -> x.event(9, 5, 83, 1));
        Checks.refusedArgument("UNITS before the DAY", Fixtures::busy, x -> x.event(9, 0, -1, 0));
        Checks.refusedArgument("CUSTOMER before the KEY", Fixtures::busy, x -> x.event(1, -1, 82, 1));
        Checks.refusedArgument("UNITS before the KEY", Fixtures::busy, x -> x.event(1, 0, 82, 10001));
        Checks.refusedArgument("CUSTOMER before the 80", Fixtures::full, x -> x.event(81, 5, 400, 1));
        Checks.refusedArgument("UNITS before the 80", Fixtures::full, x -> x.event(81, 0, 400, 0));
    }

    private static void aRefusedKeyIsNotThere() {
        Checks.sentence("0 if one with this KEY is there");
        BillForge x = new BillForge();
        Checks.illegalArgument("a wrong CUSTOMER", () -> x.event(5, 5, 0, 1));
        Checks.illegalArgument("wrong UNITS", () -> x.event(5, 0, 0, 0));
        Checks.throwing("a wrong DAY", IndexOutOfBoundsException.class, () -> x.event(5, 0, 1, 1));
        Checks.due("the KEY of those", x.event(5, 0, 0, 1), 1);
    }
}
