/** Promise 2: text. */
public final class P02TextTest {
    public static void main(String[] args) {
        bytesAreCharacters();
        wrongBytes();
        sixtyAreTheMost();
        Checks.finish();
    }

    private static void bytesAreCharacters() {
        BillForge x = new BillForge();
        Checks.due("no byte", x.text(0), 0);
        Checks.due("zeros between and behind", x.text(0x7200650000730000L), 3);
        Checks.due("lowest byte", x.text('t'), 4);
        Checks.due("highest byte", x.text((long) ' ' << 56), 5);
        Checks.due("another", x.text('7'), 6);
        Checks.due("the highest come first", x.tariff(0), 1);
        Checks.due("price", x.use(0, 3), 21);
        Checks.due("empty again", x.text(0), 0);
        Checks.due("32 and 126", x.text(0x207e), 2);
    }

    private static void wrongBytes() {
        BillForge x = new BillForge();
        Checks.write(x, "rest");
        long[] wrong = {1, 10, 31, 127, 128, 160, 255, -1, Long.MIN_VALUE, 0x2035001f00000000L, 0x2035000000007f00L};
        for (long w : wrong) {
            Checks.illegalArgument("text " + w, () -> x.text(w));
            Checks.due("characters then", x.count(4), 4);
        }
        Checks.write(x, " 5");
        Checks.due("nothing changed", x.tariff(0), 1);
        Checks.due("price", x.use(0, 2), 10);
    }

    private static void sixtyAreTheMost() {
        BillForge x = new BillForge();
        Checks.write(x, "fee 1;fee 2;" + " ".repeat(42));
        Checks.due("characters", x.count(4), 54);
        Checks.illegalState("61", () -> x.text(Checks.packed("1234567")));
        Checks.due("nothing changed", x.count(4), 54);
        Checks.illegalArgument("a wrong byte is told first", () -> x.text(-1));
        Checks.due("60", x.text(Checks.packed("123456")), 60);
        Checks.due("none more", x.text(0), 60);
        Checks.illegalState("one more", () -> x.text('1'));
        Checks.illegalArgument("a wrong one more", () -> x.text(7));
        Checks.due("still 60", x.count(4), 60);
    }
}
