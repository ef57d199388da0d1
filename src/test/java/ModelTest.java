import java.util.Random;

/** Long runs of calls, drawn with fixed seeds: each answer is compared with that of the slow model. */
public final class ModelTest {
    private static final int RUNS = 120;
    private static final int CALLS = 500;
    private static final int SPOILT_TEXTS = 5000;

    private final Random random;
    private final BillForge x = new BillForge();
    private final SlowModel model = new SlowModel();
    private final String name;

    private ModelTest(int seed) {
        random = new Random(seed);
        name = "run " + seed;
    }

    public static void main(String[] args) {
        for (int seed = 0; seed < RUNS; seed++) {
            ModelTest test = new ModelTest(seed);
            int longestTick = 1 + seed % 40;
            for (int i = 0; i < CALLS; i++) {
                test.call(i, longestTick);
            }
        }
        for (int seed = 0; seed < SPOILT_TEXTS; seed++) {
            new ModelTest(seed).writeSpoiltTariff();
        }
        Checks.finish();
    }

    private int below(int bound) {
        return random.nextInt(bound);
    }

    /** Mostly 0 to bound - 1, seldom one beside it. */
    private int about(int bound) {
        return below(40) == 0 ? below(2) * (bound + 1) - 1 : below(bound);
    }

    private void call(int i, int longestTick) {
        String at = name + " call " + i;
        int c = about(5);
        int kind = below(100);
        if (kind < 8) {
            writeTariff(at);
        } else if (kind < 18) {
            int t = below(8) == 0 ? -1 : about(3);
            same(at + " subscribe", () -> x.subscribe(c, t), () -> model.subscribe(c, t));
        } else if (kind < 26) {
            boolean on = random.nextBoolean();
            same(at + " pause", () -> x.pause(c, on) ? 1 : 0, () -> model.pause(c, on));
        } else if (kind < 48) {
            int key = below(120);
            int day = x.count(0) - below(48) + 1;
            int units = about(300);
            same(at + " event", () -> x.event(key, c, day, units), () -> model.event(key, c, day, units));
        } else if (kind < 66) {
            int days = about(longestTick + 1);
            same(at + " tick", () -> x.tick(days), () -> model.tick(days));
        } else if (kind < 76) {
            same(at + " run", x::run, model::run);
        } else if (kind < 86) {
            long amount = about(2000);
            same(at + " pay", () -> x.pay(c, amount), () -> model.pay(c, amount));
        } else if (kind < 88) {
            long amount = about(1000001);
            int days = about(401);
            same(at + " plan", () -> x.plan(c, amount, days), () -> model.plan(c, amount, days));
        } else {
            ask(at, c);
        }
        compareState(at);
    }

    private void ask(String at, int c) {
        int p = about(14);
        same(at + " charge", () -> x.charge(c, p), () -> model.charge(c, p));
        int t = about(3);
        int units = about(2000);
        same(at + " use", () -> x.use(t, units), () -> model.use(t, units));
        int k = below(52) - 1;
        for (int what = -1; what <= 6; what++) {
            int of = what;
            same(at + " invoice", () -> x.invoice(k, of), () -> model.invoice(k, of));
        }
    }

    private void compareState(String at) {
        for (int what = 0; what <= 4; what++) {
            Checks.due(at + " books " + what, x.books(what), model.books(what));
            Checks.due(at + " count " + what, x.count(what), model.count(what));
        }
        for (int c = 0; c < 5; c++) {
            for (int what = 0; what <= 6; what++) {
                Checks.due(at + " told " + c + " " + what, x.told(c, what), model.told(c, what));
            }
        }
        Checks.balanced(at, x);
    }

    private void writeTariff(String at) {
        // What is no TARIFF stays in THE TEXT for good, so it is drawn seldom.
        writeText(at, below(150) == 0 ? spoilt(drawnTariff()) : drawnTariff());
    }

    private void writeSpoiltTariff() {
        writeText(name, spoilt(drawnTariff()));
    }

    private void writeText(String at, String text) {
        for (int i = 0; i < text.length(); i += 8) {
            long w = Checks.packed(text.substring(i, Math.min(i + 8, text.length())));
            same(at + " text", () -> x.text(w), () -> model.text(w));
        }
        int t = about(3);
        int before = x.count(4);
        same(at + " tariff '" + text + "'", () -> x.tariff(t), () -> model.tariff(t));
        int place = x.where();
        Checks.due(at + " where is -2 or within", place == -2 || place >= 0 && place <= before, true);
    }

    private String drawnTariff() {
        StringBuilder text = new StringBuilder();
        String[] words = {"fee", "free", "min"};
        for (String word : words) {
            if (below(2) == 0) {
                text.append(word).append(' ').append(below(word.equals("free") ? 60 : 900)).append(blanks()).append(';');
            }
        }
        if (below(3) == 0) {
            text.append("per ").append(1 + below(20)).append(' ').append(below(50)).append(';');
        } else {
            int end = 0;
            for (int i = below(3); i > 0; i--) {
                end += 1 + below(90);
                text.append("tier").append(blanks()).append(end).append(' ').append(below(9)).append(';');
            }
        }
        return text.append(blanks()).append("rest ").append(below(9)).toString();
    }

    private String blanks() {
        return below(4) == 0 ? " " : "";
    }

    private String spoilt(String text) {
        StringBuilder changed = new StringBuilder(text);
        int place = below(text.length());
        if (below(2) == 0) {
            changed.deleteCharAt(place);
        } else {
            changed.setCharAt(place, (char) (32 + below(95)));
        }
        return changed.toString();
    }

    private static void same(String what, Checks.Call call, Checks.Call due) {
        long want;
        try {
            want = due.answer();
        } catch (RuntimeException e) {
            Checks.throwing(what, e.getClass(), call);
            return;
        }
        try {
            Checks.due(what, call.answer(), want);
        } catch (RuntimeException e) {
            Checks.due(what + " threw " + e, 0, 1);
        }
    }
}
