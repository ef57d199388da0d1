import java.util.NoSuchElementException;

/** A billing platform for what is used. The promises that the comments name by number are those of DOC.md. */
public final class BillForge {
    private static final int NONE = -1;
    private static final int TARIFFS = 3;
    private static final int CUSTOMERS = 5;
    private static final int PERIODS = 14;
    private static final int LAST_TODAY = 400;
    private static final int LAST_DATED_DAY = 100000;
    private static final int MOST_DAYS_OF_TICK = 40;
    private static final int MOST_DAYS_LATE = 45;
    private static final int MOST_DAYS_OF_PLAN = 400;
    private static final int MOST_UNITS_OF_EVENT = 10000;
    private static final int MOST_UNITS_OF_USE = 1000000;
    private static final long MOST_PAID = 1000000L;

    private final TariffReader reader = new TariffReader();
    private final Tariff[] tariffs = new Tariff[TARIFFS];
    private final Customer[] customers = new Customer[CUSTOMERS];
    private final EventLog events = new EventLog();
    private final InvoiceBook invoices = new InvoiceBook();
    private final PlanBook plans = new PlanBook();
    /** The first DAY of each PERIOD, and of the one behind the last. */
    private final int[] firstDays = new int[PERIODS + 1];
    /** These two are filled anew for each CHARGE; they are kept so that a call makes no rows. */
    private final int[] liveDays = new int[TARIFFS];
    private final long[] liveUnits = new long[TARIFFS];
    private int today = 0;
    private long cash = 0;

    public BillForge() {
        for (int t = 0; t < TARIFFS; t++) {
            tariffs[t] = new Tariff();
        }
        for (int c = 0; c < CUSTOMERS; c++) {
            customers[c] = new Customer();
        }
        for (int p = 0; p <= PERIODS; p++) {
            firstDays[p] = Almanac.firstDayOf(p);
        }
    }

    public int text(long w) throws IllegalArgumentException, IllegalStateException {
        int more = TariffReader.charactersIn(w);
        if (more < 0) {
            throw new IllegalArgumentException();
        }
        if (reader.length() + more > TariffReader.MOST_CHARACTERS) {
            throw new IllegalStateException();
        }
        reader.append(w);
        return reader.length();
    }

    public int tariff(int t) throws IllegalArgumentException {
        if (!isTariff(t)) {
            reader.forgetFault();
            throw new IllegalArgumentException();
        }
        if (!reader.readAll()) {
            throw new IllegalArgumentException();
        }
        tariffs[t].copyFrom(reader.draft());
        reader.empty();
        return reader.parts();
    }

    public int where() {
        return reader.fault();
    }

    public long use(int t, int units) throws IllegalArgumentException {
        if (!isTariff(t) || units < 0 || units > MOST_UNITS_OF_USE) {
            throw new IllegalArgumentException();
        }
        return tariffs[t].useOf(units, 1, 1);
    }

    public int subscribe(int c, int t) throws IllegalArgumentException {
        if (!isCustomer(c) || t != NONE && !isTariff(t)) {
            throw new IllegalArgumentException();
        }
        int had = customers[c].tariffNow();
        customers[c].changeTariff(t);
        return had;
    }

    public boolean pause(int c, boolean on) throws IllegalArgumentException, IllegalStateException {
        if (!isCustomer(c)) {
            throw new IllegalArgumentException();
        }
        Customer customer = customers[c];
        if (customer.tariffNow() == NONE || !on && customer.isStopped()) {
            throw new IllegalStateException();
        }
        boolean changes = customer.isPaused() != on;
        customer.setPaused(on);
        return changes;
    }

    public int event(int key, int c, int day, int units)
            throws IllegalArgumentException, IndexOutOfBoundsException, IllegalStateException {
        if (!isCustomer(c) || units < 1 || units > MOST_UNITS_OF_EVENT) {
            throw new IllegalArgumentException();
        }
        if (day < 0 || day > today || day < today - MOST_DAYS_LATE) {
            throw new IndexOutOfBoundsException();
        }
        if (events.has(key)) {
            return 0;
        }
        if (events.isFull()) {
            throw new IllegalStateException();
        }
        events.add(key, c, day, units);
        return events.size();
    }

    public int tick(int days) throws IllegalArgumentException, IllegalStateException {
        if (days < 1 || days > MOST_DAYS_OF_TICK) {
            throw new IllegalArgumentException();
        }
        if (today + days > LAST_TODAY) {
            throw new IllegalStateException();
        }
        for (int i = 0; i < days; i++) {
            passDay();
        }
        return today;
    }

    public int run() {
        int before = invoices.size();
        for (int c = 0; c < CUSTOMERS; c++) {
            for (int p = 0; p < PERIODS && firstDays[p + 1] <= today; p++) {
                invoiceDifference(c, p);
            }
        }
        return invoices.size() - before;
    }

    public long pay(int c, long amount) throws IllegalArgumentException {
        if (!isCustomer(c) || !isPayable(amount)) {
            throw new IllegalArgumentException();
        }
        long before = customers[c].credit();
        cash += amount;
        customers[c].addCredit(amount);
        spendCredit(c);
        return customers[c].credit() - before;
    }

    public int plan(int c, long amount, int days) throws IllegalArgumentException, IllegalStateException {
        if (!isCustomer(c) || !isPayable(amount) || days < 1 || days > MOST_DAYS_OF_PLAN) {
            throw new IllegalArgumentException();
        }
        if (plans.isFull()) {
            throw new IllegalStateException();
        }
        cash += amount;
        plans.add(c, amount, days, today);
        return plans.size();
    }

    public long charge(int c, int p) throws IllegalArgumentException {
        if (!isCustomer(c) || p < 0 || p >= PERIODS) {
            throw new IllegalArgumentException();
        }
        return chargeOf(c, p);
    }

    public long invoice(int k, int what) throws NoSuchElementException, IllegalArgumentException {
        if (!invoices.has(k)) {
            throw new NoSuchElementException();
        }
        switch (what) {
            case 0:
                return invoices.customerOf(k);
            case 1:
                return invoices.periodOf(k);
            case 2:
                return invoices.amountOf(k);
            case 3:
                return invoices.dayOf(k);
            case 4:
                return invoices.paidOf(k);
            case 5:
                return invoices.overdueDays(k, today);
            default:
                throw new IllegalArgumentException();
        }
    }

    public long told(int c, int what) throws IllegalArgumentException {
        if (!isCustomer(c)) {
            throw new IllegalArgumentException();
        }
        switch (what) {
            case 0:
                return customers[c].tariffNow();
            case 1:
                return customers[c].isPaused() ? 1 : 0;
            case 2:
                return customers[c].stage();
            case 3:
                return customers[c].credit();
            case 4:
                return invoices.openOf(c);
            case 5:
                return plans.amountsOf(c) - plans.earnedOf(c, today);
            case 6:
                return plans.earnedOf(c, today);
            default:
                throw new IllegalArgumentException();
        }
    }

    public long books(int what) throws IllegalArgumentException {
        switch (what) {
            case 0:
                return cash;
            case 1:
                return allOpen();
            case 2:
                return allCredit();
            case 3:
                return invoices.allAmounts() + allEarned();
            case 4:
                return plans.allAmounts() - allEarned();
            default:
                throw new IllegalArgumentException();
        }
    }

    public int date(int day, int what) throws IllegalArgumentException {
        if (day < 0 || day > LAST_DATED_DAY) {
            throw new IllegalArgumentException();
        }
        int period = Almanac.periodOf(day);
        switch (what) {
            case 0:
                return Almanac.yearOf(period);
            case 1:
                return Almanac.monthOf(period);
            case 2:
                return day - Almanac.firstDayOf(period) + 1;
            case 3:
                return period;
            default:
                throw new IllegalArgumentException();
        }
    }

    public int count(int what) throws IllegalArgumentException {
        switch (what) {
            case 0:
                return today;
            case 1:
                return events.size();
            case 2:
                return invoices.size();
            case 3:
                return plans.size();
            case 4:
                return reader.length();
            default:
                throw new IllegalArgumentException();
        }
    }

    private static boolean isTariff(int t) {
        return t >= 0 && t < TARIFFS;
    }

    private static boolean isCustomer(int c) {
        return c >= 0 && c < CUSTOMERS;
    }

    private static boolean isPayable(long amount) {
        return amount >= 1 && amount <= MOST_PAID;
    }

    /** amount * part / whole, for amounts and parts that are not below 0. */
    private static long shareOf(long amount, long part, long whole) {
        return whole < 1 ? 0 : amount * part / whole;
    }

    private void passDay() {
        for (int c = 0; c < CUSTOMERS; c++) {
            customers[c].keepDay(today);
        }
        today++;
        for (int c = 0; c < CUSTOMERS; c++) {
            lookAtStage(c);
        }
    }

    private void lookAtStage(int c) {
        customers[c].lookAtStage(invoices.mostOverdueDays(c, today));
    }

    private void invoiceDifference(int c, int p) {
        if (invoices.isFull()) {
            return;
        }
        long difference = chargeOf(c, p) - invoices.amountsOf(c, p);
        if (difference == 0) {
            return;
        }
        invoices.add(c, p, difference, today);
        if (difference < 0) {
            customers[c].addCredit(-difference);
        }
        spendCredit(c);
    }

    private void spendCredit(int c) {
        long spent = invoices.payOpen(c, customers[c].credit());
        if (spent > 0) {
            customers[c].addCredit(-spent);
            lookAtStage(c);
        }
    }

    private long chargeOf(int c, int p) {
        countLiveDays(c, p);
        countLiveUnits(c, p);
        int days = firstDays[p + 1] - firstDays[p];
        long sum = 0;
        for (int t = 0; t < TARIFFS; t++) {
            if (liveDays[t] > 0) {
                sum += tariffs[t].feeOf(liveDays[t], days);
                sum += tariffs[t].useOf(liveUnits[t], liveDays[t], days);
            }
        }
        return sum;
    }

    private void countLiveDays(int c, int p) {
        for (int t = 0; t < TARIFFS; t++) {
            liveDays[t] = 0;
        }
        for (int day = firstDays[p]; day < firstDays[p + 1] && day <= today; day++) {
            int t = customers[c].liveTariff(day, today);
            if (isTariff(t)) {
                liveDays[t]++;
            }
        }
    }

    private void countLiveUnits(int c, int p) {
        for (int t = 0; t < TARIFFS; t++) {
            liveUnits[t] = 0;
        }
        for (int i = 0; i < events.size(); i++) {
            int day = events.dayOf(i);
            if (events.customerOf(i) == c && day >= firstDays[p] && day < firstDays[p + 1]) {
                int t = customers[c].liveTariff(day, today);
                if (isTariff(t)) {
                    liveUnits[t] += events.unitsOf(i);
                }
            }
        }
    }

    private long allOpen() {
        long sum = 0;
        for (int c = 0; c < CUSTOMERS; c++) {
            sum += invoices.openOf(c);
        }
        return sum;
    }

    private long allCredit() {
        long sum = 0;
        for (int c = 0; c < CUSTOMERS; c++) {
            sum += customers[c].credit();
        }
        return sum;
    }

    private long allEarned() {
        long sum = 0;
        for (int c = 0; c < CUSTOMERS; c++) {
            sum += plans.earnedOf(c, today);
        }
        return sum;
    }

    /** Years, months and PERIODS of DAYS. */
    private static final class Almanac {
        private static final int FIRST_YEAR = 2000;
        private static final int LAST_YEAR = 2400;
        private static final int MONTHS = 12;
        private static final int LONGEST_YEAR = 366;

        static int yearOf(int period) {
            return FIRST_YEAR + period / MONTHS;
        }

        static int monthOf(int period) {
            return period % MONTHS + 1;
        }

        static int firstDayOf(int period) {
            int year = yearOf(period);
            int day = firstDayOfYear(year);
            for (int month = 1; month < monthOf(period); month++) {
                day += daysInMonth(year, month);
            }
            return day;
        }

        static int periodOf(int day) {
            // No year is longer, so this is never too late a year to begin with.
            int year = FIRST_YEAR + day / LONGEST_YEAR;
            while (year < LAST_YEAR && firstDayOfYear(year + 1) <= day) {
                year++;
            }
            int month = 1;
            int left = day - firstDayOfYear(year);
            while (month < MONTHS && left >= daysInMonth(year, month)) {
                left -= daysInMonth(year, month);
                month++;
            }
            return (year - FIRST_YEAR) * MONTHS + month - 1;
        }

        private static int firstDayOfYear(int year) {
            int years = year - FIRST_YEAR;
            // 2000 itself is a leap year, therefore the leap years before this one are counted upwards.
            int leapYears = (years + 3) / 4 - (years + 99) / 100 + (years + 399) / 400;
            return 365 * years + leapYears;
        }

        private static int daysInMonth(int year, int month) {
            if (month == 2) {
                return isLeapYear(year) ? 29 : 28;
            }
            return month == 4 || month == 6 || month == 9 || month == 11 ? 30 : 31;
        }

        private static boolean isLeapYear(int year) {
            return year % 4 == 0 && year % 100 != 0 || year % 400 == 0;
        }
    }

    /** What a TARIFF says. A new one is rest 0. */
    private static final class Tariff {
        static final int MOST_TIERS = 4;

        private int fee = 0;
        private int free = 0;
        private int least = 0;
        /** 0 if there is no per. */
        private int packSize = 0;
        private int packPrice = 0;
        private int tiers = 0;
        private final int[] tierEnds = new int[MOST_TIERS];
        private final int[] tierPrices = new int[MOST_TIERS];
        private int restPrice = 0;

        void clear() {
            fee = 0;
            free = 0;
            least = 0;
            packSize = 0;
            packPrice = 0;
            tiers = 0;
            restPrice = 0;
        }

        void copyFrom(Tariff other) {
            fee = other.fee;
            free = other.free;
            least = other.least;
            packSize = other.packSize;
            packPrice = other.packPrice;
            tiers = other.tiers;
            restPrice = other.restPrice;
            for (int i = 0; i < MOST_TIERS; i++) {
                tierEnds[i] = other.tierEnds[i];
                tierPrices[i] = other.tierPrices[i];
            }
        }

        void setFee(int cents) {
            fee = cents;
        }

        void setFree(int units) {
            free = units;
        }

        void setLeast(int cents) {
            least = cents;
        }

        void setPack(int size, int price) {
            packSize = size;
            packPrice = price;
        }

        void setRestPrice(int price) {
            restPrice = price;
        }

        void addTier(int end, int price) {
            if (tiers < MOST_TIERS) {
                tierEnds[tiers] = end;
                tierPrices[tiers] = price;
                tiers++;
            }
        }

        boolean hasPack() {
            return packSize > 0;
        }

        int tiers() {
            return tiers;
        }

        int lastTierEnd() {
            return tiers == 0 ? 0 : tierEnds[tiers - 1];
        }

        long feeOf(int days, int daysInPeriod) {
            return shareOf(fee, days, daysInPeriod);
        }

        long useOf(long units, int days, int daysInPeriod) {
            long paidUnits = Math.max(0, units - shareOf(free, days, daysInPeriod));
            long price = packSize > 0 ? priceByPacks(paidUnits) : priceByTiers(paidUnits);
            return Math.max(price, shareOf(least, days, daysInPeriod));
        }

        private long priceByPacks(long units) {
            return packSize < 1 ? 0 : (units + packSize - 1) / packSize * packPrice;
        }

        private long priceByTiers(long units) {
            long price = 0;
            long priced = 0;
            for (int i = 0; i < tiers; i++) {
                long end = Math.min(units, tierEnds[i]);
                price += (end - priced) * tierPrices[i];
                priced = end;
            }
            return price + (units - priced) * restPrice;
        }
    }

    /** THE TEXT, and how it is read as a TARIFF (promises 2 to 4). */
    private static final class TariffReader {
        static final int MOST_CHARACTERS = 60;

        private static final int NO_FAULT = -2;
        private static final int MOST_DIGITS = 5;
        private static final int FEE = 0;
        private static final int FREE = 1;
        private static final int MIN = 2;
        private static final int PER = 3;
        private static final int TIER = 4;
        private static final int REST = 5;
        private static final int WORDS = 6;

        private final char[] characters = new char[MOST_CHARACTERS];
        private final boolean[] wasThere = new boolean[WORDS];
        private final Tariff draft = new Tariff();
        private int length = 0;
        private int at = 0;
        private int parts = 0;
        private int fault = NO_FAULT;

        /** How many characters the bytes of w are, -1 if one of them can not be in THE TEXT. */
        static int charactersIn(long w) {
            int found = 0;
            for (int shift = 56; shift >= 0; shift -= 8) {
                int character = (int) (w >>> shift) & 255;
                if (character != 0) {
                    if (character < 32 || character > 126) {
                        return -1;
                    }
                    found++;
                }
            }
            return found;
        }

        void append(long w) {
            for (int shift = 56; shift >= 0; shift -= 8) {
                int character = (int) (w >>> shift) & 255;
                if (character != 0 && length < MOST_CHARACTERS) {
                    characters[length] = (char) character;
                    length++;
                }
            }
        }

        void empty() {
            length = 0;
        }

        void forgetFault() {
            fault = NO_FAULT;
        }

        int length() {
            return length;
        }

        int parts() {
            return parts;
        }

        int fault() {
            return fault;
        }

        Tariff draft() {
            return draft;
        }

        /** Whether THE TEXT is a TARIFF; then the draft is that one, else the fault tells the place. */
        boolean readAll() {
            fault = NO_FAULT;
            at = 0;
            parts = 0;
            draft.clear();
            for (int word = 0; word < WORDS; word++) {
                wasThere[word] = false;
            }
            // Each PART takes a character at least, so there can not be more of them than characters.
            while (fault == NO_FAULT && !wasThere[REST] && parts <= MOST_CHARACTERS) {
                readPart();
                parts++;
            }
            return fault == NO_FAULT;
        }

        private void readPart() {
            skipBlanks();
            int start = at;
            skipLetters();
            if (at == start) {
                fault = at;
                return;
            }
            int word = wordBetween(start, at);
            if (!canStand(word)) {
                fault = start;
                return;
            }
            wasThere[word] = true;
            readNumbers(word);
            if (fault == NO_FAULT) {
                readEndOfPart(word);
            }
        }

        private void readEndOfPart(int word) {
            skipBlanks();
            if (word == REST) {
                if (at < length) {
                    fault = at;
                }
            } else if (at < length && characters[at] == ';') {
                at++;
            } else {
                fault = at;
            }
        }

        private boolean canStand(int word) {
            if (word < 0 || word >= WORDS) {
                return false;
            }
            if (word == TIER) {
                return !draft.hasPack() && draft.tiers() < Tariff.MOST_TIERS;
            }
            if (word == PER && draft.tiers() > 0) {
                return false;
            }
            return !wasThere[word];
        }

        private void readNumbers(int word) {
            if (word == PER || word == TIER) {
                readTwoNumbers(word);
                return;
            }
            int number = readNumber(0);
            if (fault != NO_FAULT) {
                return;
            }
            if (word == FEE) {
                draft.setFee(number);
            } else if (word == FREE) {
                draft.setFree(number);
            } else if (word == MIN) {
                draft.setLeast(number);
            } else {
                draft.setRestPrice(number);
            }
        }

        private void readTwoNumbers(int word) {
            int first = readNumber(word == TIER ? draft.lastTierEnd() + 1 : 1);
            if (fault != NO_FAULT) {
                return;
            }
            int price = readNumber(0);
            if (fault != NO_FAULT) {
                return;
            }
            if (word == TIER) {
                draft.addTier(first, price);
            } else {
                draft.setPack(first, price);
            }
        }

        /** The NUMBER that comes next; 0 and a fault if there is none, or it is below the least. */
        private int readNumber(int least) {
            skipBlanks();
            int start = at;
            int number = 0;
            while (at < length && characters[at] >= '0' && characters[at] <= '9') {
                if (at - start == MOST_DIGITS) {
                    fault = at;
                    return 0;
                }
                number = number * 10 + (characters[at] - '0');
                at++;
            }
            if (at == start || number < least) {
                fault = start;
                return 0;
            }
            return number;
        }

        private void skipBlanks() {
            while (at < length && characters[at] == ' ') {
                at++;
            }
        }

        private void skipLetters() {
            while (at < length && isLetter(characters[at])) {
                at++;
            }
        }

        private static boolean isLetter(char character) {
            return character >= 'a' && character <= 'z' || character >= 'A' && character <= 'Z';
        }

        private int wordBetween(int start, int end) {
            for (int word = 0; word < WORDS; word++) {
                if (isSpelled(spellingOf(word), start, end)) {
                    return word;
                }
            }
            return NONE;
        }

        private boolean isSpelled(String spelling, int start, int end) {
            if (end - start != spelling.length()) {
                return false;
            }
            for (int i = 0; i < spelling.length(); i++) {
                if (characters[start + i] != spelling.charAt(i)) {
                    return false;
                }
            }
            return true;
        }

        private static String spellingOf(int word) {
            switch (word) {
                case FEE:
                    return "fee";
                case FREE:
                    return "free";
                case MIN:
                    return "min";
                case PER:
                    return "per";
                case TIER:
                    return "tier";
                default:
                    return "rest";
            }
        }
    }

    /** A CUSTOMER: the SUBSCRIPTION with its days that went by, the STAGE and the CREDIT. */
    private static final class Customer {
        private static final int LAST_STAGE = 3;

        /** For each DAY before TODAY the TARIFF for which it was LIVE, or NONE. */
        private final byte[] liveTariffs = new byte[LAST_TODAY + 1];
        private int tariff = NONE;
        private boolean paused = false;
        private int stage = 0;
        private long credit = 0;

        int tariffNow() {
            return tariff;
        }

        boolean isPaused() {
            return paused;
        }

        int stage() {
            return stage;
        }

        long credit() {
            return credit;
        }

        boolean isStopped() {
            return stage == LAST_STAGE;
        }

        void changeTariff(int t) {
            tariff = t;
            paused = isStopped();
        }

        void setPaused(boolean on) {
            paused = on;
        }

        void addCredit(long amount) {
            credit += amount;
        }

        void keepDay(int day) {
            if (day >= 0 && day < liveTariffs.length) {
                liveTariffs[day] = (byte) liveTariffNow();
            }
        }

        int liveTariff(int day, int today) {
            if (day == today) {
                return liveTariffNow();
            }
            return day >= 0 && day < today && day < liveTariffs.length ? liveTariffs[day] : NONE;
        }

        void lookAtStage(int overdueDays) {
            int next = overdueDays == 0 ? 0 : Math.max(stage, stageFor(overdueDays));
            if (next == LAST_STAGE && stage != LAST_STAGE) {
                paused = true;
            }
            if (next == 0 && stage == LAST_STAGE) {
                paused = false;
            }
            stage = next;
        }

        private int liveTariffNow() {
            return paused ? NONE : tariff;
        }

        private static int stageFor(int overdueDays) {
            if (overdueDays <= 10) {
                return 1;
            }
            return overdueDays <= 20 ? 2 : LAST_STAGE;
        }
    }

    /** The EVENTS, in the order in which they came. */
    private static final class EventLog {
        private static final int MOST = 80;

        private final int[] keys = new int[MOST];
        private final int[] customers = new int[MOST];
        private final int[] days = new int[MOST];
        private final int[] units = new int[MOST];
        private int size = 0;

        int size() {
            return size;
        }

        boolean isFull() {
            return size >= MOST;
        }

        boolean has(int key) {
            for (int i = 0; i < size; i++) {
                if (keys[i] == key) {
                    return true;
                }
            }
            return false;
        }

        void add(int key, int c, int day, int used) {
            if (!isFull()) {
                keys[size] = key;
                customers[size] = c;
                days[size] = day;
                units[size] = used;
                size++;
            }
        }

        int customerOf(int i) {
            return customers[i];
        }

        int dayOf(int i) {
            return days[i];
        }

        int unitsOf(int i) {
            return units[i];
        }
    }

    /** The INVOICES and NOTES, the oldest first. */
    private static final class InvoiceBook {
        private static final int MOST = 50;
        private static final int DAYS_TO_PAY = 14;

        private final int[] customers = new int[MOST];
        private final int[] periods = new int[MOST];
        private final long[] amounts = new long[MOST];
        private final int[] days = new int[MOST];
        private final long[] paid = new long[MOST];
        private int size = 0;

        int size() {
            return size;
        }

        boolean isFull() {
            return size >= MOST;
        }

        boolean has(int k) {
            return k >= 0 && k < size;
        }

        void add(int c, int p, long amount, int day) {
            if (!isFull()) {
                customers[size] = c;
                periods[size] = p;
                amounts[size] = amount;
                days[size] = day;
                paid[size] = Math.min(amount, 0);
                size++;
            }
        }

        int customerOf(int k) {
            return customers[k];
        }

        int periodOf(int k) {
            return periods[k];
        }

        long amountOf(int k) {
            return amounts[k];
        }

        int dayOf(int k) {
            return days[k];
        }

        long paidOf(int k) {
            return paid[k];
        }

        int overdueDays(int k, int today) {
            return paid[k] == amounts[k] ? 0 : Math.max(0, today - days[k] - DAYS_TO_PAY);
        }

        int mostOverdueDays(int c, int today) {
            int most = 0;
            for (int k = 0; k < size; k++) {
                if (customers[k] == c) {
                    most = Math.max(most, overdueDays(k, today));
                }
            }
            return most;
        }

        long amountsOf(int c, int p) {
            long sum = 0;
            for (int k = 0; k < size; k++) {
                if (customers[k] == c && periods[k] == p) {
                    sum += amounts[k];
                }
            }
            return sum;
        }

        long allAmounts() {
            long sum = 0;
            for (int k = 0; k < size; k++) {
                sum += amounts[k];
            }
            return sum;
        }

        long openOf(int c) {
            long sum = 0;
            for (int k = 0; k < size; k++) {
                if (customers[k] == c) {
                    sum += amounts[k] - paid[k];
                }
            }
            return sum;
        }

        /** Pays what is OPEN of the CUSTOMER, the oldest first: how much of the credit that took. */
        long payOpen(int c, long credit) {
            long left = credit;
            for (int k = 0; k < size && left > 0; k++) {
                if (customers[k] == c) {
                    long part = Math.min(left, amounts[k] - paid[k]);
                    paid[k] += part;
                    left -= part;
                }
            }
            return credit - left;
        }
    }

    /** The PLANS, in the order in which they came. */
    private static final class PlanBook {
        private static final int MOST = 10;

        private final int[] customers = new int[MOST];
        private final long[] amounts = new long[MOST];
        private final int[] lengths = new int[MOST];
        private final int[] firstDays = new int[MOST];
        private int size = 0;

        int size() {
            return size;
        }

        boolean isFull() {
            return size >= MOST;
        }

        void add(int c, long amount, int days, int firstDay) {
            if (!isFull()) {
                customers[size] = c;
                amounts[size] = amount;
                lengths[size] = days;
                firstDays[size] = firstDay;
                size++;
            }
        }

        long amountsOf(int c) {
            long sum = 0;
            for (int i = 0; i < size; i++) {
                if (customers[i] == c) {
                    sum += amounts[i];
                }
            }
            return sum;
        }

        long allAmounts() {
            long sum = 0;
            for (int i = 0; i < size; i++) {
                sum += amounts[i];
            }
            return sum;
        }

        long earnedOf(int c, int today) {
            long sum = 0;
            for (int i = 0; i < size; i++) {
                if (customers[i] == c) {
                    int gone = Math.min(today - firstDays[i], lengths[i]);
                    sum += shareOf(amounts[i], gone, lengths[i]);
                }
            }
            return sum;
        }
    }
}
