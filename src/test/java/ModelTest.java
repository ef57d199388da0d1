import java.util.Random;

/** Long runs of calls, drawn with fixed seeds: each answer is compared with that of the slow model. */
public final class ModelTest {
    private static final int RUNS = 800;
    private static final int SPOILT_TEXTS = 5000;
    private static final int SHUFFLED_TEXTS = 20000;
    /** Of these a TEXT is put together: PARTS, what is left of some, and what can be in none. */
    private static final String[] PIECES = {
        "fee 7", "free 2", "min 3", "per 4 5", "tier 2 1", "tier 3 1", "tier 9 0", "tier 99999 1", "rest 8",
        "fee", "free", "min", "per", "tier", "rest", "re", "tiers", "Fee", "x",
        ";", ";", ";", ";", " ", "  ", "0", "1", "5", "00000", "99999", "123456", "-", "~"
    };
    /** Nothing is promised behind 512 calls; the last of them tell the state, and one that writes a TARIFF takes ten. */
    private static final int CALLS_OF_STATE = 45;
    private static final int CALLS = 512 - CALLS_OF_STATE - 10;

    private final Random random;
    private final BillForge x = new BillForge();
    private final SlowModel model = new SlowModel();
    private final String name;
    private int calls = 0;

    private ModelTest(int seed) {
        random = new Random(seed);
        name = "run " + seed;
    }

    public static void main(String[] args) {
        for (int seed = 0; seed < RUNS; seed++) {
            new ModelTest(seed).callAll(1 + seed % 40);
        }
        for (int seed = 0; seed < SPOILT_TEXTS; seed++) {
            new ModelTest(seed).writeSpoiltTariff();
        }
        for (int seed = 0; seed < SHUFFLED_TEXTS; seed++) {
            new ModelTest(seed).writeShuffledPieces();
        }
        Checks.finish();
    }

    private void callAll(int longestTick) {
        int middle = below(CALLS);
        boolean wasMiddle = false;
        while (calls < CALLS) {
            call(name + " call " + calls, longestTick);
            if (!wasMiddle && calls >= middle && calls < CALLS - CALLS_OF_STATE) {
                compareState(name + " call " + calls);
                wasMiddle = true;
            }
        }
        compareState(name + " at the end");
    }

    private int below(int bound) {
        return random.nextInt(bound);
    }

    /** Mostly 0 to bound - 1, seldom one beside it. */
    private int about(int bound) {
        return below(40) == 0 ? below(2) * (bound + 1) - 1 : below(bound);
    }

    private void call(String at, int longestTick) {
        int c = about(5);
        int kind = below(100);
        if (kind < 5) {
            writeTariff(at);
        } else if (kind < 12) {
            int t = below(8) == 0 ? -1 : about(3);
            same(at + " subscribe", () -> x.subscribe(c, t), () -> model.subscribe(c, t));
        } else if (kind < 18) {
            boolean on = random.nextBoolean();
            same(at + " pause", () -> x.pause(c, on) ? 1 : 0, () -> model.pause(c, on));
        } else if (kind < 38) {
            int key = below(120);
            int day = model.count(0) - below(48) + 1;
            int units = about(300);
            same(at + " event", () -> x.event(key, c, day, units), () -> model.event(key, c, day, units));
        } else if (kind < 50) {
            int days = about(longestTick + 1);
            same(at + " tick", () -> x.tick(days), () -> model.tick(days));
        } else if (kind < 58) {
            same(at + " run", x::run, model::run);
        } else if (kind < 65) {
            long amount = about(2000);
            same(at + " pay", () -> x.pay(c, amount), () -> model.pay(c, amount));
        } else if (kind < 67) {
            long amount = about(1000001);
            int days = about(401);
            same(at + " plan", () -> x.plan(c, amount, days), () -> model.plan(c, amount, days));
        } else {
            ask(at, c);
        }
    }

    private void ask(String at, int c) {
        int kind = below(6);
        if (kind == 0) {
            int p = about(14);
            same(at + " charge", () -> x.charge(c, p), () -> model.charge(c, p));
        } else if (kind == 1) {
            int t = about(3);
            int units = about(2000);
            same(at + " use", () -> x.use(t, units), () -> model.use(t, units));
        } else if (kind == 2) {
            int k = about(1 + model.count(2));
            int what = about(6);
            same(at + " invoice", () -> x.invoice(k, what), () -> model.invoice(k, what));
        } else if (kind == 3) {
            int what = about(5);
            same(at + " books", () -> x.books(what), () -> model.books(what));
        } else {
            int what = about(7);
            same(at + " told", () -> x.told(c, what), () -> model.told(c, what));
        }
    }

    private void compareState(String at) {
        for (int what = 0; what <= 4; what++) {
            int of = what;
            same(at + " books " + what, () -> x.books(of), () -> model.books(of));
            same(at + " count " + what, () -> x.count(of), () -> model.count(of));
        }
        for (int c = 0; c <= 4; c++) {
            for (int what = 0; what <= 6; what++) {
                int customer = c;
                int of = what;
                same(at + " told " + c + " " + what, () -> x.told(customer, of), () -> model.told(customer, of));
            }
        }
        Checks.due(at + ": the books of the model", model.books(0) + model.books(1),
                model.books(2) + model.books(3) + model.books(4));
    }

    private void writeTariff(String at) {
        // What is no TARIFF stays in THE TEXT for good, so it is drawn seldom.
        writeText(at, below(150) == 0 ? spoilt(drawnTariff()) : drawnTariff());
    }

    private void writeSpoiltTariff() {
        writeText(name, spoilt(drawnTariff()));
    }

    private void writeShuffledPieces() {
        StringBuilder text = new StringBuilder();
        for (int i = below(12); i > 0; i--) {
            text.append(PIECES[below(PIECES.length)]).append(below(2) == 0 ? ";" : blanks());
        }
        writeText(name, text.substring(0, Math.min(60, text.length())));
    }

    private void writeText(String at, String text) {
        for (int i = 0; i < text.length(); i += 8) {
            long w = Checks.packed(text.substring(i, Math.min(i + 8, text.length())));
            same(at + " text", () -> x.text(w), () -> model.text(w));
        }
        int t = about(3);
        same(at + " tariff '" + text + "'", () -> x.tariff(t), () -> model.tariff(t));
        same(at + " where in '" + text + "'", x::where, model::where);
    }

    private String drawnTariff() {
        StringBuilder text = new StringBuilder();
        String[] words = {"fee", "free", "min"};
        for (String word : words) {
            if (below(2) == 0) {
                text.append(word).append(' ').append(below(word.equals("free") ? 60 : 900)).append(blanks()).append(';');
            }
        }
        if (below(3) == 0) {
            text.append("per ").append(1 + below(20)).append(' ').append(below(50)).append(';');
        } else {
            int end = 0;
            for (int i = below(3); i > 0; i--) {
                end += 1 + below(90);
                text.append("tier").append(blanks()).append(end).append(' ').append(below(9)).append(';');
            }
        }
        return text.append(blanks()).append("rest ").append(below(9)).toString();
    }

    private String blanks() {
        return below(4) == 0 ? " " : "";
    }

    private String spoilt(String text) {
        StringBuilder changed = new StringBuilder(text);
        int place = below(text.length());
        if (below(2) == 0) {
            changed.deleteCharAt(place);
        } else {
            changed.setCharAt(place, (char) (32 + below(95)));
        }
        return changed.toString();
    }

    private void same(String what, Checks.Call call, Checks.Call due) {
        calls++;
        long want;
        try {
            want = due.answer();
        } catch (RuntimeException e) {
            Checks.throwing(what, e.getClass(), call);
            return;
        }
        try {
            Checks.due(what, call.answer(), want);
        } catch (RuntimeException e) {
            Checks.due(what + " threw " + e, 0, 1);
        }
    }
}
