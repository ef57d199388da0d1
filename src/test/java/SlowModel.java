import java.time.LocalDate;
import java.time.temporal.ChronoUnit;
import java.util.ArrayList;
import java.util.HashMap;
import java.util.List;
import java.util.Map;
import java.util.NoSuchElementException;
import java.util.TreeMap;
import java.util.regex.Matcher;
import java.util.regex.Pattern;

/** The document once more, in another way and without care for speed: everything is worked out anew when it is asked for. */
final class SlowModel {
    private static final LocalDate FIRST = LocalDate.of(2000, 1, 1);
    private static final String ONE_NUMBER = " *(?:fee|free|min) *[0-9]{1,5} *;";
    private static final String TWO_NUMBERS = " *(?:per|tier) *[0-9]{1,5} +[0-9]{1,5} *;";
    private static final Pattern SHAPE =
            Pattern.compile("(?:" + ONE_NUMBER + "|" + TWO_NUMBERS + ")* *rest *[0-9]{1,5} *");
    private static final Pattern PART = Pattern.compile("([a-z]+) *([0-9]+)(?: +([0-9]+))?");
    private static final Pattern WORD_OR_NUMBER = Pattern.compile("[A-Za-z]+|[0-9]+");

    private record Event(int customer, int day, int units) {
    }

    private record Plan(int customer, long amount, int days, int start) {
    }

    private static final class Invoice {
        int customer;
        int period;
        long amount;
        int day;
        long paid;

        boolean isOpen() {
            return amount > 0 && paid < amount;
        }
    }

    private final Map<Integer, Event> events = new HashMap<>();
    private final List<Plan> plans = new ArrayList<>();
    private final List<Invoice> invoices = new ArrayList<>();
    private final List<Map<Integer, Integer>> liveByDay = new ArrayList<>();
    private final String[] tariffs = {"rest 0", "rest 0", "rest 0"};
    private final int[] tariffOf = {-1, -1, -1, -1, -1};
    private final boolean[] paused = new boolean[5];
    private final int[] stage = new int[5];
    private final long[] credit = new long[5];
    private String text = "";
    private int where = -2;
    private int today = 0;
    private long cash = 0;

    SlowModel() {
        for (int c = 0; c < 5; c++) {
            liveByDay.add(new TreeMap<>());
            noteToday(c);
        }
    }

    private static void need(boolean asSaid) {
        if (!asSaid) {
            throw new IllegalArgumentException();
        }
    }

    private static void needState(boolean asSaid) {
        if (!asSaid) {
            throw new IllegalStateException();
        }
    }

    private static boolean within(long value, long low, long high) {
        return value >= low && value <= high;
    }

    private void noteToday(int c) {
        liveByDay.get(c).put(today, paused[c] ? -1 : tariffOf[c]);
    }

    int text(long w) {
        StringBuilder more = new StringBuilder();
        for (byte b : java.nio.ByteBuffer.allocate(8).putLong(w).array()) {
            if (b != 0) {
                need(b >= 32 && b <= 126);
                more.append((char) b);
            }
        }
        needState(text.length() + more.length() <= 60);
        text += more;
        return text.length();
    }

    int tariff(int t) {
        where = -2;
        need(within(t, 0, 2));
        where = isTariff(text) ? -2 : faultOf(text);
        need(where == -2);
        tariffs[t] = text;
        text = "";
        return tariffs[t].split(";").length;
    }

    private static boolean isTariff(String text) {
        if (!SHAPE.matcher(text).matches()) {
            return false;
        }
        Map<String, Integer> times = new HashMap<>();
        int lastEnd = 0;
        Matcher part = PART.matcher(text);
        while (part.find()) {
            String word = part.group(1);
            times.merge(word, 1, Integer::sum);
            int number = Integer.parseInt(part.group(2));
            if (word.equals("per") && number == 0 || word.equals("tier") && number <= lastEnd) {
                return false;
            }
            lastEnd = word.equals("tier") ? number : lastEnd;
        }
        int tiers = times.getOrDefault("tier", 0);
        times.remove("tier");
        boolean once = times.values().stream().allMatch(n -> n == 1);
        return once && tiers <= 4 && !(tiers > 0 && times.containsKey("per"));
    }

    int where() {
        return where;
    }

    /** Of a TEXT that is no TARIFF: the first word or NUMBER that can not be there, else where the shape ends. */
    private static int faultOf(String text) {
        int end = endOfShape(text);
        Map<String, Integer> times = new HashMap<>();
        String word = "";
        int numbers = 0;
        int lastEnd = 0;
        Matcher token = WORD_OR_NUMBER.matcher(text);
        while (token.find() && token.start() < end) {
            if (Character.isLetter(text.charAt(token.start()))) {
                word = token.group();
                numbers = 0;
                if (!canFollow(word, times)) {
                    return token.start();
                }
                times.merge(word, 1, Integer::sum);
            } else {
                numbers++;
                boolean first = numbers == 1 && token.group().length() <= 5;
                int number = first ? Integer.parseInt(token.group()) : 0;
                if (first && (word.equals("per") && number == 0 || word.equals("tier") && number <= lastEnd)) {
                    return token.start();
                }
                lastEnd = first && word.equals("tier") ? number : lastEnd;
            }
        }
        return end;
    }

    /** The place of the first character with which no row of well formed PARTS goes on, or the end of the TEXT. */
    private static int endOfShape(String text) {
        for (int i = 0; i < text.length(); i++) {
            Matcher begun = SHAPE.matcher(text.substring(0, i + 1));
            if (!begun.matches() && !begun.hitEnd()) {
                return i;
            }
        }
        return text.length();
    }

    private static boolean canFollow(String word, Map<String, Integer> times) {
        return switch (word) {
            case "tier" -> !times.containsKey("per") && times.getOrDefault("tier", 0) < 4;
            case "per" -> !times.containsKey("per") && !times.containsKey("tier");
            case "fee", "free", "min", "rest" -> !times.containsKey(word);
            default -> false;
        };
    }

    /** What TARIFF t costs for days of a PERIOD: the fee first, the USE second. */
    private long[] costs(int t, long units, long days, long daysInPeriod) {
        Map<String, Long> numbers = new HashMap<>();
        TreeMap<Long, Long> prices = new TreeMap<>();
        long perPrice = 0;
        Matcher part = PART.matcher(tariffs[t]);
        while (part.find()) {
            long number = Long.parseLong(part.group(2));
            numbers.put(part.group(1), number);
            if (part.group(1).equals("tier")) {
                prices.put(number, Long.parseLong(part.group(3)));
            } else if (part.group(1).equals("per")) {
                perPrice = Long.parseLong(part.group(3));
            }
        }
        prices.put(Long.MAX_VALUE, numbers.get("rest"));
        long counted = units - numbers.getOrDefault("free", 0L) * days / daysInPeriod;
        long price = 0;
        if (numbers.containsKey("per")) {
            for (long left = counted; left > 0; left -= numbers.get("per")) {
                price += perPrice;
            }
        } else {
            for (long unit = 1; unit <= counted; unit++) {
                price += prices.ceilingEntry(unit).getValue();
            }
        }
        long fee = numbers.getOrDefault("fee", 0L) * days / daysInPeriod;
        return new long[] {fee, Math.max(price, numbers.getOrDefault("min", 0L) * days / daysInPeriod)};
    }

    long use(int t, int units) {
        need(within(t, 0, 2) && within(units, 0, 1000000));
        return costs(t, units, 1, 1)[1];
    }

    int subscribe(int c, int t) {
        need(within(c, 0, 4) && within(t, -1, 2));
        int had = tariffOf[c];
        tariffOf[c] = t;
        paused[c] = stage[c] == 3;
        noteToday(c);
        return had;
    }

    int pause(int c, boolean on) {
        need(within(c, 0, 4));
        needState(tariffOf[c] >= 0 && (on || stage[c] < 3));
        boolean was = paused[c];
        paused[c] = on;
        noteToday(c);
        return was == on ? 0 : 1;
    }

    int event(int key, int c, int day, int units) {
        need(within(c, 0, 4) && within(units, 1, 10000));
        if (!within(day, Math.max(0, today - 45), today)) {
            throw new IndexOutOfBoundsException();
        }
        if (events.containsKey(key)) {
            return 0;
        }
        needState(events.size() < 80);
        events.put(key, new Event(c, day, units));
        return events.size();
    }

    int tick(int days) {
        need(within(days, 1, 40));
        needState(today + days <= 400);
        for (int i = 0; i < days; i++) {
            today++;
            for (int c = 0; c < 5; c++) {
                lookAt(c);
                noteToday(c);
            }
        }
        return today;
    }

    private int overdue(Invoice i) {
        return i.isOpen() && today - i.day > 14 ? today - i.day - 14 : 0;
    }

    private void lookAt(int c) {
        int most = invoices.stream().filter(i -> i.customer == c).mapToInt(this::overdue).max().orElse(0);
        int was = stage[c];
        if (most == 0) {
            stage[c] = 0;
        } else if (most > 20) {
            stage[c] = 3;
        } else {
            stage[c] = Math.max(was, most > 10 ? 2 : 1);
        }
        if (was != 3 && stage[c] == 3) {
            paused[c] = true;
        } else if (was == 3 && stage[c] == 0) {
            paused[c] = false;
        }
    }

    int run() {
        int made = 0;
        for (int c = 0; c < 5; c++) {
            for (int p = 0; p < 14; p++) {
                if (dayNumber(FIRST.plusMonths(p + 1)) - 1 >= today) {
                    continue;
                }
                int customer = c;
                int period = p;
                long sum = invoices.stream().filter(i -> i.customer == customer && i.period == period)
                        .mapToLong(i -> i.amount).sum();
                long difference = charge(c, p) - sum;
                if (difference != 0 && invoices.size() < 50) {
                    make(c, p, difference);
                    made++;
                }
            }
        }
        return made;
    }

    private void make(int c, int p, long amount) {
        Invoice i = new Invoice();
        i.customer = c;
        i.period = p;
        i.amount = amount;
        i.day = today;
        invoices.add(i);
        if (amount < 0) {
            i.paid = amount;
            credit[c] -= amount;
        }
        spend(c);
    }

    /** Cent by cent would be the plainest; invoice by invoice is near enough. */
    private void spend(int c) {
        boolean paidSomething = false;
        for (Invoice i : invoices) {
            if (i.customer == c && i.isOpen() && credit[c] > 0) {
                long part = Math.min(credit[c], i.amount - i.paid);
                i.paid += part;
                credit[c] -= part;
                paidSomething = true;
            }
        }
        if (paidSomething) {
            lookAt(c);
            noteToday(c);
        }
    }

    long pay(int c, long amount) {
        need(within(c, 0, 4) && within(amount, 1, 1000000));
        long open = told(c, 4);
        cash += amount;
        credit[c] += amount;
        spend(c);
        return Math.max(0, amount - open);
    }

    int plan(int c, long amount, int days) {
        need(within(c, 0, 4) && within(amount, 1, 1000000) && within(days, 1, 400));
        needState(plans.size() < 10);
        cash += amount;
        plans.add(new Plan(c, amount, days, today));
        return plans.size();
    }

    private static int dayNumber(LocalDate date) {
        return (int) ChronoUnit.DAYS.between(FIRST, date);
    }

    long charge(int c, int p) {
        need(within(c, 0, 4) && within(p, 0, 13));
        int start = dayNumber(FIRST.plusMonths(p));
        int end = dayNumber(FIRST.plusMonths(p + 1));
        long sum = 0;
        for (int t = 0; t < 3; t++) {
            long days = 0;
            long units = 0;
            for (int day = start; day < end; day++) {
                if (liveByDay.get(c).getOrDefault(day, -1) == t) {
                    int live = day;
                    days++;
                    units += events.values().stream().filter(e -> e.customer == c && e.day == live)
                            .mapToLong(Event::units).sum();
                }
            }
            if (days > 0) {
                long[] costs = costs(t, units, days, end - start);
                sum += costs[0] + costs[1];
            }
        }
        return sum;
    }

    long invoice(int k, int what) {
        if (!within(k, 0, invoices.size() - 1)) {
            throw new NoSuchElementException();
        }
        need(within(what, 0, 5));
        Invoice i = invoices.get(k);
        return new long[] {i.customer, i.period, i.amount, i.day, i.paid, overdue(i)}[what];
    }

    long told(int c, int what) {
        need(within(c, 0, 4) && within(what, 0, 6));
        long open = invoices.stream().filter(i -> i.customer == c && i.isOpen()).mapToLong(i -> i.amount - i.paid).sum();
        long all = 0;
        long earned = 0;
        for (Plan plan : plans) {
            if (plan.customer == c) {
                all += plan.amount;
                earned += plan.amount * Math.min(plan.days, today - plan.start) / plan.days;
            }
        }
        return new long[] {tariffOf[c], paused[c] ? 1 : 0, stage[c], credit[c], open, all - earned, earned}[what];
    }

    long books(int what) {
        need(within(what, 0, 4));
        long[] sums = new long[7];
        for (int c = 0; c < 5; c++) {
            for (int i = 0; i < 7; i++) {
                sums[i] += told(c, i);
            }
        }
        long amounts = invoices.stream().mapToLong(i -> i.amount).sum();
        return new long[] {cash, sums[4], sums[3], amounts + sums[6], sums[5]}[what];
    }

    int count(int what) {
        need(within(what, 0, 4));
        return new int[] {today, events.size(), invoices.size(), plans.size(), text.length()}[what];
    }
}
