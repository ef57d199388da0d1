import java.util.List;
import java.util.NoSuchElementException;

/** What the tests share: each wrong answer is printed, and one of them makes finish() end with exit code 1. */
final class Checks {
    /** A call of the face, of whatever answer. */
    interface Call {
        long answer();
    }

    /** A call of the face of an object that is not there yet. */
    interface CallOf {
        long answer(BillForge x);
    }

    /** Makes an object, the same one each time. */
    interface Making {
        BillForge made();
    }

    private static final int DAYS_UNTIL_HIDDEN_THINGS_SHOW = 20;

    private static String sentence = "";
    private static int wrong = 0;
    private static int done = 0;

    private Checks() {
    }

    /** From here on a wrong answer is told with these words of the document. */
    static void sentence(String words) {
        sentence = "[" + words + "] ";
    }

    static void due(String what, long got, long want) {
        done++;
        if (got != want) {
            wrong++;
            System.out.println(sentence + what + " answered " + got + ", due is " + want);
        }
    }

    static void due(String what, boolean got, boolean want) {
        due(what, got ? 1 : 0, want ? 1 : 0);
    }

    static void illegalArgument(String what, Call call) {
        throwing(what, IllegalArgumentException.class, call);
    }

    static void illegalState(String what, Call call) {
        throwing(what, IllegalStateException.class, call);
    }

    static void throwing(String what, Class<? extends RuntimeException> due, Call call) {
        done++;
        String got;
        try {
            got = "answered " + call.answer();
        } catch (RuntimeException e) {
            if (e.getClass() == due) {
                return;
            }
            got = "threw " + e.getClass().getName();
        }
        wrong++;
        System.out.println(sentence + what + " " + got + ", due is throwing " + due.getName());
    }

    /** The call throws, and nothing has changed behind it: neither what is told now nor what is told later. */
    static void refused(String what, Class<? extends RuntimeException> due, Making making, CallOf call) {
        BillForge x = making.made();
        BillForge untouched = making.made();
        throwing(what, due, () -> call.answer(x));
        due("where behind " + what, x.where(), untouched.where());
        sameState(what, x, untouched);
    }

    static void refusedArgument(String what, Making making, CallOf call) {
        refused(what, IllegalArgumentException.class, making, call);
    }

    static void refusedState(String what, Making making, CallOf call) {
        refused(what, IllegalStateException.class, making, call);
    }

    static void refusedDay(String what, Making making, CallOf call) {
        refused(what, IndexOutOfBoundsException.class, making, call);
    }

    static void refusedElement(String what, Making making, CallOf call) {
        refused(what, NoSuchElementException.class, making, call);
    }

    /** Uses up both objects: what they hide, as a DAY that went by or a character of THE TEXT, is brought out. */
    static void sameState(String what, BillForge x, BillForge untouched) {
        sameFacts(what, x, untouched);
        if (x.count(0) + DAYS_UNTIL_HIDDEN_THINGS_SHOW <= 400) {
            x.tick(DAYS_UNTIL_HIDDEN_THINGS_SHOW);
            untouched.tick(DAYS_UNTIL_HIDDEN_THINGS_SHOW);
            due("run later behind " + what, x.run(), untouched.run());
            sameFacts("later behind " + what, x, untouched);
        }
        due("THE TEXT read behind " + what, partsOrNone(x), partsOrNone(untouched));
        due("THE TEXT priced behind " + what, x.use(2, 77), untouched.use(2, 77));
    }

    private static long partsOrNone(BillForge x) {
        try {
            return x.tariff(2);
        } catch (IllegalArgumentException e) {
            return -1 - x.where();
        }
    }

    private static void sameFacts(String what, BillForge x, BillForge untouched) {
        List<String> got = Facts.of(x);
        List<String> want = Facts.of(untouched);
        due(what + ": how many facts", got.size(), want.size());
        for (int i = 0; i < Math.min(got.size(), want.size()); i++) {
            due(what + ": '" + got.get(i) + "' should be '" + want.get(i) + "'", got.get(i).equals(want.get(i)), true);
        }
    }

    /** Appends the characters to THE TEXT, eight a call. */
    static void write(BillForge x, String characters) {
        for (int i = 0; i < characters.length(); i += 8) {
            x.text(packed(characters.substring(i, Math.min(i + 8, characters.length()))));
        }
    }

    static long packed(String characters) {
        long w = 0;
        for (int i = 0; i < characters.length(); i++) {
            w = w << 8 | characters.charAt(i);
        }
        return w;
    }

    static BillForge withText(String text) {
        BillForge x = new BillForge();
        write(x, text);
        return x;
    }

    static BillForge withTariff(String tariff) {
        BillForge x = new BillForge();
        setTariff(x, 0, tariff);
        return x;
    }

    static void setTariff(BillForge x, int t, String tariff) {
        write(x, tariff);
        x.tariff(t);
    }

    /** Goes by its own count of DAYS, so that it ends whatever tick answers. */
    static void tickTo(BillForge x, int day) {
        int today = x.count(0);
        while (today < day) {
            int days = Math.min(40, day - today);
            x.tick(days);
            today += days;
        }
    }

    /** What invoice(k, 0), invoice(k, 1) and so on are to answer. */
    static void invoiceIs(BillForge x, int k, long... due) {
        for (int what = 0; what < due.length; what++) {
            due("INVOICE " + k + " " + what, x.invoice(k, what), due[what]);
        }
    }

    /** What told(c, 0), told(c, 1) and so on are to answer. */
    static void toldIs(BillForge x, int c, long... due) {
        for (int what = 0; what < due.length; what++) {
            due("told " + c + " " + what, x.told(c, what), due[what]);
        }
    }

    /** What books(0), books(1) and so on are to answer. */
    static void booksAre(BillForge x, long... due) {
        for (int what = 0; what < due.length; what++) {
            due("books " + what, x.books(what), due[what]);
        }
    }

    /** What count(0), count(1) and so on are to answer. */
    static void countsAre(BillForge x, long... due) {
        for (int what = 0; what < due.length; what++) {
            due("count " + what, x.count(what), due[what]);
        }
    }

    /** CASH and RECEIVABLE together are CREDIT, REVENUE and DEFERRED together. */
    static void balanced(String what, BillForge x) {
        due(what + ": the books", x.books(0) + x.books(1), x.books(2) + x.books(3) + x.books(4));
    }

    static void finish() {
        System.out.println(wrong == 0 ? done + " answers are as due" : wrong + " of " + done + " answers are not as due");
        if (wrong != 0) {
            System.exit(1);
        }
    }
}
