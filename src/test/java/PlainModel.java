import java.util.ArrayList;
import java.util.Comparator;
import java.util.HashMap;
import java.util.List;
import java.util.Map;

/**
 * The document once more, with nothing kept but what was told: each answer is reckoned anew from that. It stands
 * against the class in random runs; it shares no code with it, and may use the whole library.
 */
final class PlainModel {
    record Contract(int person, int place, int from, int to, boolean byHours, int norm, int pay) {
    }

    record Told(int who, int from, int order, int one, int two) {
    }

    record Shift(int contract, long begin, long length) {
    }

    record Leave(int contract, int day, int order) {
    }

    record Word(int what, int number) {
    }

    record Element(int people, List<Word> words) {
    }

    record Bracket(int place, int state, int month, int end, int part) {
    }

    record Garnishment(int person, int month, int rank, int total, int part, int kept, int order) {
    }

    record Advance(int person, int month, int cents) {
    }

    static final class Payment {
        int person;
        int month;
        long cents;
        boolean back;
    }

    private int order;
    private final List<Contract> contracts = new ArrayList<>();
    private final List<Told> pays = new ArrayList<>();
    private final List<Shift> shifts = new ArrayList<>();
    private final List<Leave> leaves = new ArrayList<>();
    private int rate;
    private int carry;
    private int term;
    private List<Word> draft = new ArrayList<>();
    private final List<Element> elements = new ArrayList<>();
    private final Map<List<Integer>, Integer> bonuses = new HashMap<>();
    private final List<Told> contributions = new ArrayList<>();
    private final List<Bracket> brackets = new ArrayList<>();
    private final List<Told> states = new ArrayList<>();
    private final List<Told> pensions = new ArrayList<>();
    private final List<Garnishment> garnishments = new ArrayList<>();
    private final List<Advance> advances = new ArrayList<>();
    private final List<Payment> payments = new ArrayList<>();
    private final Map<List<Integer>, long[]> filings = new HashMap<>();
    private final Map<List<Integer>, Integer> corrections = new HashMap<>();
    private int open;

    /** Bases and minutes by contract and month, forgotten whenever something of them is told: only to save time. */
    private final Map<Integer, long[]> worked = new HashMap<>();

    private static void there(boolean is) {
        if (!is) {
            throw new IndexOutOfBoundsException();
        }
    }

    private static void fit(boolean is) {
        if (!is) {
            throw new IllegalArgumentException();
        }
    }

    private static void may(boolean is) {
        if (!is) {
            throw new IllegalStateException();
        }
    }

    private static boolean in(long number, long least, long most) {
        return least <= number && number <= most;
    }

    private boolean isContract(int contract) {
        return in(contract, 0, contracts.size() - 1);
    }

    private boolean isContractDay(int contract, int day) {
        return isContract(contract) && in(day, contracts.get(contract).from, contracts.get(contract).to);
    }

    /** Nearest, halves up, by whole numbers. */
    static long round(long number, long divisor) {
        long down = Math.floorDiv(number, divisor);
        long rest = Math.floorMod(number, divisor);
        return 2 * rest >= divisor ? down + 1 : down;
    }

    private static Told holding(List<Told> told, int who, int when) {
        return told.stream().filter(t -> t.who == who && t.from <= when)
            .max(Comparator.comparingInt(Told::from).thenComparingInt(Told::order)).orElse(null);
    }

    int contract(int person, int place, int from, int to, boolean byHours, int norm, int pay) {
        there(in(person, 0, 5) && in(place, 0, 2) && in(from, 0, 719) && in(to, 0, 719));
        fit(to >= from && in(norm, 60, 600) && in(pay, 0, 1000000));
        may(contracts.size() < 10);
        worked.clear();
        contracts.add(new Contract(person, place, from, to, byHours, norm, pay));
        return contracts.size() - 1;
    }

    private int payOf(int contract, int day) {
        Contract c = contracts.get(contract);
        int when = in(day, c.from, c.to) ? day : c.to;
        Told told = holding(pays, contract, when);
        return told == null ? c.pay : told.one;
    }

    int pay(int contract, int day, int pay) {
        there(isContract(contract) && in(day, 0, 719));
        fit(in(pay, 0, 1000000));
        int when = Math.max(day, contracts.get(contract).from);
        int before = payOf(contract, when);
        worked.clear();
        pays.add(new Told(contract, when, order++, pay, 0));
        return before;
    }

    int shift(int contract, int day, int minute, int length) {
        there(isContractDay(contract, day));
        fit(in(minute, 0, 1439) && in(length, 1, 1440));
        may(shifts.size() < 40);
        long begin = day * 1440L + minute;
        for (Shift other : shifts) {
            boolean apart = other.begin + other.length <= begin || begin + length <= other.begin;
            may(other.contract != contract || apart);
        }
        worked.clear();
        shifts.add(new Shift(contract, begin, length));
        return shifts.size();
    }

    int minutes(int contract, int day) {
        there(isContract(contract) && in(day, 0, 719));
        long sum = 0;
        for (Shift s : shifts) {
            long end = s.begin + (s.length > 360 ? s.length - 30 : s.length);
            long common = Math.min(end, (day + 1) * 1440L) - Math.max(s.begin, day * 1440L);
            sum += s.contract == contract ? Math.max(0, common) : 0;
        }
        return (int) sum;
    }

    int overtime(int contract, int week) {
        there(isContract(contract) && in(week, 0, 102));
        int norm = contracts.get(contract).norm;
        int daily = 0;
        int weekly = 0;
        for (int day = 0; day < 720; day++) {
            if (day / 7 == week) {
                daily += Math.max(0, minutes(contract, day) - norm);
                weekly += minutes(contract, day);
            }
        }
        return Math.max(daily, weekly - 5 * norm);
    }

    long base(int contract, int month) {
        there(isContract(contract) && in(month, 0, 23));
        Contract c = contracts.get(contract);
        long plain = 0;
        for (int day = 30 * month; day < 30 * month + 30; day++) {
            plain += c.byHours ? (long) minutes(contract, day) * payOf(contract, day)
                : in(day, c.from, c.to) ? payOf(contract, day) : 0;
        }
        long sum = round(plain, c.byHours ? 60 : 30);
        for (int week = 0; week <= 102; week++) {
            int last = week == 102 ? 719 : 7 * week + 6;
            if (last / 30 == month) {
                long pay = payOf(contract, last);
                long hourly = c.byHours ? pay : round(60 * pay, 30L * c.norm);
                sum += round(hourly * overtime(contract, week), 120);
            }
        }
        for (Leave leave : leaves) {
            if (leave.contract == contract && leave.day / 30 == month && c.byHours && isTaken(leave)) {
                sum += round((long) c.norm * payOf(contract, leave.day), 60);
            }
        }
        return sum;
    }

    void leaveRule(int rate, int carry, int term) {
        fit(in(rate, 0, 50) && in(carry, 0, 500) && in(term, 1, 12));
        worked.clear();
        this.rate = rate;
        this.carry = carry;
        this.term = term;
    }

    boolean leave(int contract, int day) {
        there(isContractDay(contract, day));
        may(leaves.size() < 30);
        Leave leave = new Leave(contract, day, order++);
        worked.clear();
        leaves.add(leave);
        return isTaken(leave);
    }

    private boolean isTaken(Leave leave) {
        List<Leave> taken = new ArrayList<>();
        leaveAt(contracts.get(leave.contract).person, 719, taken);
        return taken.contains(leave);
    }

    int leaveLeft(int person, int day) {
        there(in(person, 0, 5) && in(day, 0, 719));
        return leaveAt(person, day, new ArrayList<>());
    }

    /** Day by day; the leave of the last day is taken too, but does not count in the answer. */
    private int leaveAt(int person, int lastDay, List<Leave> taken) {
        int old = 0;
        int young = 0;
        int answer = 0;
        for (int day = 0; day <= lastDay; day++) {
            int yesterday = day - 1;
            boolean works = contracts.stream().anyMatch(c -> c.person == person && c.from <= yesterday && yesterday <= c.to);
            if (day > 0 && day % 30 == 0 && works) {
                young += rate;
            }
            if (day == 360) {
                old = Math.min(carry, young);
                young = 0;
            }
            if (day == 30 * (12 + term)) {
                old = 0;
            }
            answer = old + young;
            int today = day;
            List<Leave> told = leaves.stream().filter(l -> contracts.get(l.contract).person == person && l.day == today)
                .sorted(Comparator.comparingInt(Leave::order)).toList();
            for (Leave leave : told) {
                if (old + young >= 10) {
                    for (int tenth = 0; tenth < 10; tenth++) {
                        if (old > 0) {
                            old--;
                        } else {
                            young--;
                        }
                    }
                    taken.add(leave);
                }
            }
        }
        return answer;
    }

    Contract contractOf(int contract) {
        return isContract(contract) ? contracts.get(contract) : null;
    }

    List<Word> draft() {
        return draft;
    }

    int elements() {
        return elements.size();
    }

    static int pileOf(List<Word> words) {
        int high = 0;
        for (Word word : words) {
            high += word.what <= 3 ? 1 : -1;
        }
        return high;
    }

    int word(int what, int number) {
        fit(in(what, 0, 9) && (what != 2 || in(number, 0, 5)) && (what != 3 || in(number, -1000000, 1000000)));
        may(draft.size() < 10 && (what <= 3 || pileOf(draft) >= 2));
        draft.add(new Word(what, number));
        return draft.size();
    }

    int element(int number, int people) {
        there(in(number, 0, Math.min(5, elements.size())));
        fit(in(people, 0, 63));
        may(pileOf(draft) == 1);
        List<Element> then = new ArrayList<>(elements);
        if (number < then.size()) {
            then.set(number, new Element(people, draft));
        } else {
            then.add(new Element(people, draft));
        }
        may(!needs(then, number, number, 0));
        elements.clear();
        elements.addAll(then);
        draft = new ArrayList<>();
        return elements.size();
    }

    private static boolean needs(List<Element> all, int element, int sought, int depth) {
        if (element >= all.size() || depth > 7) {
            return false;
        }
        for (Word word : all.get(element).words) {
            if (word.what == 2 && (word.number == sought || needs(all, word.number, sought, depth + 1))) {
                return true;
            }
        }
        return false;
    }

    int order(int place) {
        there(in(place, 0, elements.size() - 1));
        List<Integer> come = new ArrayList<>();
        while (come.size() <= place) {
            for (int number = 0; number < elements.size(); number++) {
                if (!come.contains(number) && elements.get(number).words.stream().allMatch(
                        w -> w.what != 2 || w.number >= elements.size() || come.contains(w.number))) {
                    come.add(number);
                    break;
                }
            }
        }
        return come.get(place);
    }

    long elementOf(int element, int person, int month) {
        there(in(element, 0, elements.size() - 1) && in(person, 0, 5) && in(month, 0, 23));
        long bases = 0;
        long minutes = 0;
        for (int c = 0; c < contracts.size(); c++) {
            if (contracts.get(c).person == person) {
                bases += workedIn(c, month)[0];
                minutes += workedIn(c, month)[1];
            }
        }
        return valueOf(element, person, bases, minutes / 60);
    }

    private long valueOf(int element, int person, long bases, long hours) {
        if (element >= elements.size() || (elements.get(element).people >> person) % 2 == 0) {
            return 0;
        }
        List<Long> pile = new ArrayList<>();
        for (Word word : elements.get(element).words) {
            long number;
            if (word.what <= 3) {
                number = word.what == 0 ? bases : word.what == 1 ? hours
                    : word.what == 2 ? valueOf(word.number, person, bases, hours) : word.number;
            } else {
                long b = pile.remove(pile.size() - 1);
                long a = pile.remove(pile.size() - 1);
                number = switch (word.what) {
                    case 4 -> a + b;
                    case 5 -> a - b;
                    case 6 -> a * b;
                    case 7 -> round(a * b, 1000);
                    case 8 -> Math.min(a, b);
                    default -> Math.max(a, b);
                };
            }
            pile.add(Math.min(100000000, Math.max(-100000000, number)));
        }
        return pile.get(0);
    }

    int bonus(int person, int month, int place, int cents) {
        there(in(person, 0, 5) && in(month, 0, 23) && in(place, 0, 2));
        fit(in(cents, -10000000, 10000000));
        Integer before = bonuses.put(List.of(person, month, place), cents);
        return before == null ? 0 : before;
    }

    void contribution(int place, int month, int part, int ceiling) {
        there(in(place, 0, 2) && in(month, 0, 23));
        fit(in(part, 0, 500) && in(ceiling, 0, 100000000));
        contributions.add(new Told(place, month, order++, part, ceiling));
    }

    int bracket(int place, int state, int month, int end, int part) {
        there(in(place, 0, 2) && in(month, 0, 23));
        fit(in(state, 0, 1) && in(end, 1, 1000000000) && in(part, 0, 900));
        List<Bracket> begun = begunAt(place, state, month);
        may(begun.size() < 4 && (begun.isEmpty() || begun.get(begun.size() - 1).end < end));
        brackets.add(new Bracket(place, state, month, end, part));
        return begun.size() + 1;
    }

    private List<Bracket> begunAt(int place, int state, int month) {
        return brackets.stream().filter(b -> b.place == place && b.state == state && b.month == month).toList();
    }

    void state(int person, int month, int state) {
        there(in(person, 0, 5) && in(month, 0, 23));
        fit(in(state, 0, 1));
        states.add(new Told(person, month, order++, state, 0));
    }

    void pension(int person, int month, int part) {
        there(in(person, 0, 5) && in(month, 0, 23));
        fit(in(part, 0, 200));
        pensions.add(new Told(person, month, order++, part, 0));
    }

    long yearTax(int place, int state, int month, long amount) {
        there(in(place, 0, 2) && in(month, 0, 23));
        fit(in(state, 0, 1) && in(amount, 0, 10000000000L));
        return taxOfYear(place, state, month, amount);
    }

    private long taxOfYear(int place, int state, int month, long amount) {
        int begun = month;
        while (begun >= 0 && begunAt(place, state, begun).isEmpty()) {
            begun--;
        }
        long tax = 0;
        long below = 0;
        for (Bracket bracket : begunAt(place, state, begun)) {
            if (amount > below) {
                tax += (Math.min(amount, bracket.end) - below) * bracket.part / 1000;
            }
            below = bracket.end;
        }
        return tax;
    }

    /** One year of a person, as it is with a bonus more; rows by what of a slip, then by month, then by place. */
    private final class Year {
        final long[][] gross = new long[12][3];
        final long[][] contribution = new long[12][3];
        final long[][] tax = new long[12][3];
        final long[] pension = new long[12];
        final long[] match = new long[12];
        final long[] net = new long[12];

        Year(int person, int year, int lastMonth, int moreMonth, int morePlace, int more) {
            long[][] counted = new long[12][3];
            long[][] taxed = new long[12][3];
            for (int m = 0; 12 * year + m <= lastMonth && m < 12; m++) {
                int month = 12 * year + m;
                int home = homeOf(person, month);
                for (int place = 0; place < 3; place++) {
                    gross[m][place] = bonuses.getOrDefault(List.of(person, month, place), 0);
                    gross[m][place] += month == moreMonth && place == morePlace ? more : 0;
                    for (int c = 0; c < contracts.size(); c++) {
                        boolean here = contracts.get(c).person == person && contracts.get(c).place == place;
                        gross[m][place] += here ? workedIn(c, month)[0] : 0;
                    }
                    for (int e = 0; place == home && e < elements.size(); e++) {
                        gross[m][place] += elementOf(e, person, month);
                    }
                    Told told = holding(contributions, place, month);
                    long counts = Math.min(sum(gross, m, place), told == null ? 0 : told.two) - sum(counted, m - 1, place);
                    counted[m][place] = Math.max(0, counts);
                    contribution[m][place] = round(counted[m][place] * (told == null ? 0 : told.one), 1000);
                }
                long all = gross[m][0] + gross[m][1] + gross[m][2];
                Told told = holding(pensions, person, month);
                long part = told == null ? 0 : told.one;
                pension[m] = all < 0 ? 0 : round(all * part, 1000);
                match[m] = all < 0 ? 0 : round(all * Math.min(50, part), 1000);
                net[m] = all - pension[m];
                Told state = holding(states, person, month);
                for (int place = 0; place < 3; place++) {
                    taxed[m][place] = gross[m][place] - contribution[m][place] - (place == home ? pension[m] : 0);
                    long parts = Math.max(0, sum(taxed, m, place)) * 12 / (m + 1);
                    long ofYear = taxOfYear(place, state == null ? 0 : state.one, month, parts);
                    tax[m][place] = ofYear * (m + 1) / 12 - sum(tax, m - 1, place);
                    net[m] -= tax[m][place] + contribution[m][place];
                }
            }
        }

        private static long sum(long[][] rows, int last, int place) {
            long sum = 0;
            for (int m = 0; m <= last; m++) {
                sum += rows[m][place];
            }
            return sum;
        }
    }

    private long[] workedIn(int contract, int month) {
        int key = 24 * contract + month;
        if (!worked.containsKey(key)) {
            long minutes = 0;
            for (int day = 30 * month; day < 30 * month + 30; day++) {
                minutes += minutes(contract, day);
            }
            worked.put(key, new long[] {base(contract, month), minutes});
        }
        return worked.get(key);
    }

    private int homeOf(int person, int month) {
        return contracts.stream().filter(c -> c.person == person && c.from / 30 <= month && month <= c.to / 30)
            .findFirst().map(Contract::place).orElse(0);
    }

    private Year yearOf(int person, int month) {
        return new Year(person, month / 12, month, -1, 0, 0);
    }

    long slip(int person, int month, int what) {
        there(in(person, 0, 5) && in(month, 0, 23));
        fit(in(what, 0, 7));
        if (what == 5 || what == 6) {
            return shares(person)[month][what - 5];
        }
        Year year = yearOf(person, month);
        int m = month % 12;
        return switch (what) {
            case 0 -> year.gross[m][0] + year.gross[m][1] + year.gross[m][2];
            case 1 -> year.contribution[m][0] + year.contribution[m][1] + year.contribution[m][2];
            case 2 -> year.pension[m];
            case 3 -> year.tax[m][0] + year.tax[m][1] + year.tax[m][2];
            case 4 -> year.net[m];
            default -> year.match[m];
        };
    }

    long slipIn(int person, int month, int place, int what) {
        there(in(person, 0, 5) && in(month, 0, 23) && in(place, 0, 2));
        fit(what == 0 || what == 1 || what == 3);
        Year year = yearOf(person, month);
        return (what == 0 ? year.gross : what == 1 ? year.contribution : year.tax)[month % 12][place];
    }

    long pensionOf(int person, int month) {
        there(in(person, 0, 5) && in(month, 0, 23));
        Year[] years = {yearOf(person, Math.min(month, 11)), yearOf(person, Math.max(month, 12))};
        long own = 0;
        long added = 0;
        int count = 0;
        for (int m = 0; m <= month; m++) {
            own += years[m / 12].pension[m % 12];
            added += years[m / 12].match[m % 12];
            count += years[m / 12].pension[m % 12] > 0 ? 1 : 0;
        }
        return own + (count >= 6 ? added : 0);
    }

    int grossFor(int person, int month, int place, int net) {
        there(in(person, 0, 5) && in(month, 0, 23) && in(place, 0, 2));
        fit(in(net, 1, 1000000));
        long now = yearOf(person, month).net[month % 12];
        for (int more = 10000; more <= 2000000; more += 10000) {
            if (new Year(person, month / 12, month, month, place, more).net[month % 12] - now >= net) {
                return more;
            }
        }
        return -1;
    }

    int garnish(int person, int month, int rank, int total, int part, int kept) {
        there(in(person, 0, 5) && in(month, 0, 23));
        fit(in(rank, 0, 9) && in(total, 1, 100000000) && in(part, 1, 1000) && in(kept, 0, 100000000));
        may(garnishments.size() < 6);
        garnishments.add(new Garnishment(person, month, rank, total, part, kept, garnishments.size()));
        return garnishments.size() - 1;
    }

    /** By month: taken by garnishments, payout, then by garnishment what it took. */
    private long[][] shares(int person) {
        long[][] shares = new long[24][2 + 6];
        List<Garnishment> ranked = garnishments.stream().filter(g -> g.person == person)
            .sorted(Comparator.comparingInt(Garnishment::rank).thenComparingInt(Garnishment::order)).toList();
        Year[] years = {yearOf(person, 11), yearOf(person, 23)};
        long paidBack = 0;
        for (int month = 0; month < 24; month++) {
            long net = years[month / 12].net[month % 12];
            long rest = net;
            for (Garnishment g : ranked) {
                long had = 0;
                for (int m = 0; m < month; m++) {
                    had += shares[m][2 + g.order];
                }
                long take = Math.min(Math.min(g.total - had, Math.floorDiv(net * g.part, 1000L)), rest - g.kept);
                take = g.month > month || take < 0 ? 0 : take;
                shares[month][2 + g.order] = take;
                rest -= take;
            }
            shares[month][0] = net - rest;
            int last = month;
            long due = advances.stream().filter(a -> a.person == person && a.month <= last).mapToLong(Advance::cents).sum() - paidBack;
            long back = rest > 0 ? Math.min(due, rest) : 0;
            paidBack += back;
            shares[month][1] = rest - back;
        }
        return shares;
    }

    long takenBy(int garnishment, int month) {
        there(in(garnishment, 0, garnishments.size() - 1) && in(month, 0, 23));
        long[][] shares = shares(garnishments.get(garnishment).person);
        long sum = 0;
        for (int m = 0; m <= month; m++) {
            sum += shares[m][2 + garnishment];
        }
        return sum;
    }

    long advance(int person, int cents) {
        there(in(person, 0, 5));
        fit(in(cents, 1, 1000000));
        may(open < 24);
        advances.add(new Advance(person, open, cents));
        return advances.stream().filter(a -> a.person == person).mapToLong(Advance::cents).sum();
    }

    int open() {
        return open;
    }

    int close() {
        may(open < 24);
        int count = 0;
        for (int person = 0; person < 6; person++) {
            Payment payment = new Payment();
            payment.person = person;
            payment.month = open;
            payment.cents = owed(person);
            if (payment.cents > 0) {
                payments.add(payment);
                count++;
            }
        }
        long[][][] sums = new long[3][24][2];
        for (int person = 0; person < 6; person++) {
            Year[] years = {yearOf(person, 11), yearOf(person, 23)};
            for (int month = 0; month <= open; month++) {
                for (int place = 0; place < 3; place++) {
                    sums[place][month][0] += years[month / 12].tax[month % 12][place];
                    sums[place][month][1] += years[month / 12].contribution[month % 12][place];
                }
            }
        }
        for (int month = 0; month <= open; month++) {
            for (int place = 0; place < 3; place++) {
                long[] last = filings.put(List.of(place, month), sums[place][month]);
                if (last != null && (last[0] != sums[place][month][0] || last[1] != sums[place][month][1])) {
                    corrections.merge(List.of(place, month), 1, Integer::sum);
                }
            }
        }
        open++;
        return count;
    }

    int payments() {
        return payments.size();
    }

    long payment(int payment, int what) {
        there(in(payment, 0, payments.size() - 1));
        fit(in(what, 0, 3));
        Payment p = payments.get(payment);
        return what == 0 ? p.person : what == 1 ? p.month : what == 2 ? p.cents : p.back ? 1 : 0;
    }

    long comeBack(int payment) {
        there(in(payment, 0, payments.size() - 1));
        may(!payments.get(payment).back);
        payments.get(payment).back = true;
        return payments.get(payment).cents;
    }

    long owed(int person) {
        there(in(person, 0, 5));
        long[][] shares = shares(person);
        long sum = 0;
        for (int month = 0; month <= Math.min(open, 23); month++) {
            sum += shares[month][1];
        }
        for (Payment payment : payments) {
            sum -= payment.person == person && !payment.back ? payment.cents : 0;
        }
        return sum;
    }

    long filed(int place, int month, boolean taxes) {
        there(in(place, 0, 2) && in(month, 0, 23));
        long[] last = filings.get(List.of(place, month));
        return last == null ? 0 : last[taxes ? 0 : 1];
    }

    int corrections(int place, int month) {
        there(in(place, 0, 2) && in(month, 0, 23));
        return corrections.getOrDefault(List.of(place, month), 0);
    }
}
