/** Promise 2: text. */
public final class P02TextTest {
    public static void main(String[] args) {
        bytesAreCharacters();
        zerosAreLeftOut();
        theHighestComesFirst();
        charactersAre32To126();
        wrongBytes();
        sixtyAreTheMost();
        nothingChangesWithMoreThanSixty();
        aWrongByteIsToldBeforeTheLength();
        emptyAgain();
        Checks.finish();
    }

    private static void bytesAreCharacters() {
        Checks.sentence("The characters in the bytes of w [...] come to THE TEXT: how many it has.");
        BillForge x = new BillForge();
        Checks.due("eight", x.text(Checks.packed("fee 1   ")), 8);
        Checks.due("seven", x.text(Checks.packed("   ;   ")), 15);
        Checks.due("one", x.text('r'), 16);
        Checks.due("two", x.text(Checks.packed("es")), 18);
        Checks.due("four", x.text(Checks.packed("t  7")), 22);
        Checks.due("characters", x.count(4), 22);
        Checks.due("all of them are there", x.tariff(0), 2);
        Checks.due("price", x.use(0, 3), 21);
    }

    private static void zerosAreLeftOut() {
        Checks.sentence("zeros left out");
        Checks.due("no byte but zeros", new BillForge().text(0), 0);
        for (int shift = 0; shift < 64; shift += 8) {
            Checks.due("one character, shifted by " + shift, new BillForge().text((long) '~' << shift), 1);
        }
        BillForge x = new BillForge();
        Checks.due("between and behind", x.text(0x7200650000730000L), 3);
        Checks.due("before", x.text('t'), 4);
        Checks.due("behind", x.text((long) ' ' << 56), 5);
        Checks.due("none but zeros", x.text(0), 5);
        Checks.due("a digit", x.text(0x3700000000L), 6);
        Checks.due("no character comes in their place", x.tariff(0), 1);
        Checks.due("price", x.use(0, 3), 21);
        BillForge zero = new BillForge();
        Checks.write(zero, "rest ");
        Checks.due("the digit 0 is no zero", zero.text('0'), 6);
    }

    private static void theHighestComesFirst() {
        Checks.sentence("the highest first");
        BillForge x = new BillForge();
        x.text(0x7265737420393831L);
        Checks.due("tariff", x.tariff(0), 1);
        Checks.due("rest 981", x.use(0, 1), 981);
    }

    private static void charactersAre32To126() {
        Checks.sentence("a row of at most 60 characters (32 to 126)");
        for (int character = 1; character <= 255; character++) {
            for (int shift = 0; shift < 64; shift += 8) {
                BillForge x = new BillForge();
                long w = (long) character << shift;
                if (character >= 32 && character <= 126) {
                    Checks.due("character " + character + " shifted by " + shift, x.text(w), 1);
                } else {
                    Checks.illegalArgument("character " + character + " shifted by " + shift, () -> x.text(w));
                }
            }
        }
    }

    private static void wrongBytes() {
        Checks.sentence("IllegalArgumentException if another byte is not as said; [...] nothing changes then.");
        long[] wrong = {1, 31, 127, 128, 255, -1, Long.MIN_VALUE, Long.MAX_VALUE, 0x2035001f00000000L,
            0x2035000000007f00L, 0x3120202020202001L, 0x0120202020202031L};
        for (long w : wrong) {
            Checks.refusedArgument("text " + w, Fixtures::busy, x -> x.text(w));
            Checks.refusedArgument("the first text " + w, BillForge::new, x -> x.text(w));
        }
        BillForge x = Checks.withText("rest");
        Checks.illegalArgument("a wrong byte behind good ones", () -> x.text(Checks.packed(" 5\n")));
        Checks.due("THE TEXT goes on where it was", x.text(Checks.packed(" 7")), 6);
        Checks.due("tariff", x.tariff(0), 1);
        Checks.due("price", x.use(0, 2), 14);
    }

    private static void sixtyAreTheMost() {
        Checks.sentence("IllegalStateException if there would be more than 60");
        for (int there = 52; there <= 60; there++) {
            for (int more = 0; more <= 8; more++) {
                BillForge x = Checks.withText(" ".repeat(there));
                long w = Checks.packed(" ".repeat(more));
                if (there + more <= 60) {
                    Checks.due(more + " behind " + there, x.text(w), there + more);
                } else {
                    Checks.illegalState(more + " behind " + there, () -> x.text(w));
                    Checks.due("characters then", x.count(4), there);
                }
            }
        }
        BillForge x = Checks.withText(" ".repeat(59));
        Checks.due("zeros count as none", x.text((long) ' ' << 56), 60);
        Checks.due("the 60th is read", tariffOf(" ".repeat(54) + "rest 9").use(0, 1), 9);
        Checks.due("and all before it", tariffOf("rest 9" + " ".repeat(54)).use(0, 1), 9);
    }

    private static BillForge tariffOf(String text) {
        BillForge x = Checks.withText(text);
        Checks.due("characters", x.count(4), 60);
        Checks.due("tariff of 60 characters", x.tariff(0), 1);
        return x;
    }

    private static void nothingChangesWithMoreThanSixty() {
        Checks.sentence("IllegalStateException if there would be more than 60; nothing changes then.");
        Checks.refusedState("one behind 60", Fixtures::full, x -> x.text('1'));
        Checks.refusedState("eight behind 60", Fixtures::full, x -> x.text(0x3131313131313131L));
        BillForge x = Checks.withText("rest" + " ".repeat(54));
        Checks.illegalState("three behind 58", () -> x.text(Checks.packed("123")));
        Checks.due("not a part of them", x.count(4), 58);
        Checks.due("two behind 58", x.text(Checks.packed("45")), 60);
        Checks.due("tariff", x.tariff(0), 1);
        Checks.due("price", x.use(0, 1), 45);
    }

    private static void aWrongByteIsToldBeforeTheLength() {
        Checks.sentence("IllegalArgumentException if another byte is not as said; IllegalStateException if [...]");
        Checks.refusedArgument("a wrong byte behind 60", Fixtures::full, x -> x.text(7));
        Checks.refusedArgument("eight wrong ones behind 60", Fixtures::full, x -> x.text(-1));
        Checks.refusedArgument("seven good ones and a wrong one", Fixtures::full, x -> x.text(0x313131313131317fL));
        Checks.due("no byte behind 60", Fixtures.full().text(0), 60);
    }

    private static void emptyAgain() {
        Checks.sentence("TARIFF t (0 to 2) becomes as THE TEXT says, which is empty then");
        BillForge x = Fixtures.full();
        Checks.due("tariff", x.tariff(0), 2);
        Checks.due("no character is left", x.text(0), 0);
        Checks.write(x, " ".repeat(60));
        Checks.due("there is room for 60 again", x.count(4), 60);
        Checks.illegalState("and for no more", () -> x.text(' '));
    }
}
