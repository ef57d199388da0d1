import java.util.ArrayList;
import java.util.List;

/** All that an object tells, a row each, so that two objects can be compared. */
final class Facts {
    /** With more INVOICES than that the calls of one object would not do, so only AMOUNT and PAID are asked for. */
    private static final int FEW_INVOICES = 12;

    private Facts() {
    }

    static List<String> of(BillForge x) {
        List<String> rows = new ArrayList<>();
        for (int what = 0; what <= 4; what++) {
            rows.add("count " + what + ": " + x.count(what));
            rows.add("books " + what + ": " + x.books(what));
        }
        for (int c = 0; c <= 4; c++) {
            addCustomer(rows, x, c);
        }
        for (int t = 0; t <= 2; t++) {
            rows.add("use " + t + ": " + x.use(t, 0) + " " + x.use(t, 33) + " " + x.use(t, 1000));
        }
        addInvoices(rows, x);
        return rows;
    }

    private static void addCustomer(List<String> rows, BillForge x, int c) {
        for (int what = 0; what <= 6; what++) {
            rows.add("told " + c + " " + what + ": " + x.told(c, what));
        }
        for (int p = 0; p <= 13; p++) {
            rows.add("charge " + c + " " + p + ": " + x.charge(c, p));
        }
    }

    private static void addInvoices(List<String> rows, BillForge x) {
        int invoices = x.count(2);
        for (int k = 0; k < invoices; k++) {
            if (invoices <= FEW_INVOICES) {
                for (int what = 0; what <= 5; what++) {
                    rows.add("invoice " + k + " " + what + ": " + x.invoice(k, what));
                }
            } else {
                rows.add("invoice " + k + ": " + x.invoice(k, 2) + " " + x.invoice(k, 4));
            }
        }
    }
}
