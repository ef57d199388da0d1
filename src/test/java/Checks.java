/** What the tests share: each wrong answer is printed, and one of them makes finish() end with exit code 1. */
final class Checks {
    /** A call of the face, of whatever answer. */
    interface Call {
        long answer();
    }

    private static int wrong = 0;
    private static int done = 0;

    private Checks() {
    }

    static void due(String what, long got, long want) {
        done++;
        if (got != want) {
            wrong++;
            System.out.println(what + " answered " + got + ", due is " + want);
        }
    }

    static void due(String what, boolean got, boolean want) {
        due(what, got ? 1 : 0, want ? 1 : 0);
    }

    static void illegalArgument(String what, Call call) {
        throwing(what, IllegalArgumentException.class, call);
    }

    static void illegalState(String what, Call call) {
        throwing(what, IllegalStateException.class, call);
    }

    static void throwing(String what, Class<? extends RuntimeException> due, Call call) {
        done++;
        String got;
        try {
            got = "answered " + call.answer();
        } catch (RuntimeException e) {
            if (e.getClass() == due) {
                return;
            }
            got = "threw " + e.getClass().getName();
        }
        wrong++;
        System.out.println(what + " " + got + ", due is throwing " + due.getName());
    }

    /** Appends the characters to THE TEXT, eight a call. */
    static void write(BillForge x, String characters) {
        for (int i = 0; i < characters.length(); i += 8) {
            x.text(packed(characters.substring(i, Math.min(i + 8, characters.length()))));
        }
    }

    static long packed(String characters) {
        long w = 0;
        for (int i = 0; i < characters.length(); i++) {
            w = w << 8 | characters.charAt(i);
        }
        return w;
    }

    static BillForge withTariff(String tariff) {
        BillForge x = new BillForge();
        setTariff(x, 0, tariff);
        return x;
    }

    static void setTariff(BillForge x, int t, String tariff) {
        write(x, tariff);
        x.tariff(t);
    }

    static void tickTo(BillForge x, int day) {
        while (x.count(0) < day) {
            x.tick(Math.min(40, day - x.count(0)));
        }
    }

    /** What invoice(k, 0), invoice(k, 1) and so on are to answer. */
    static void invoiceIs(BillForge x, int k, long... due) {
        for (int what = 0; what < due.length; what++) {
            due("INVOICE " + k + " " + what, x.invoice(k, what), due[what]);
        }
    }

    /** CASH and RECEIVABLE together are CREDIT, REVENUE and DEFERRED together. */
    static void balanced(String what, BillForge x) {
        due(what + ": the books", x.books(0) + x.books(1), x.books(2) + x.books(3) + x.books(4));
    }

    static void finish() {
        System.out.println(wrong == 0 ? done + " answers are as due" : wrong + " of " + done + " answers are not as due");
        if (wrong != 0) {
            System.exit(1);
        }
    }
}
