import java.util.ArrayList;

/** A payroll and tax engine. DOC.md says, promise by promise, what each public method does. */
public final class Taxmaze {
    public static final int NONE = -1;
    public static final int BASE = 0, HOURS = 1, ELEMENT = 2, MONEY = 3, PLUS = 4, MINUS = 5, TIMES = 6, PERMILLE = 7, LESSER = 8, GREATER = 9;
    public static final int GROSS = 0, CONTRIBUTION = 1, PENSION = 2, TAX = 3, NET = 4, TAKEN = 5, PAYOUT = 6, MATCH = 7;

    private static final int PEOPLE = 6, PLACES = 3, STATES = 2;
    private static final int MONTHS = 24, YEAR = 12, DAYS = 720, WEEKS = 103;
    private static final int MONTH_DAYS = 30, WEEK_DAYS = 7, DAY_MINUTES = 1440, HOUR = 60;
    private static final int MOST_CONTRACTS = 10, MOST_SHIFTS = 40, MOST_LEAVES = 30;
    private static final int MOST_ELEMENTS = 6, MOST_WORDS = 10, MOST_BRACKETS = 4, MOST_GARNISHMENTS = 6;
    private static final int MILLION = 1000000, HUNDRED_MILLION = 100000000, THOUSAND = 1000;
    private static final int LEAVE_DAY = 10, VESTING_MONTHS = 6, MOST_MATCH = 50;
    private static final int BONUS_STEP = 10000, BONUS_STEPS = 200;

    private final ArrayList<Contract> contracts = new ArrayList<>();
    private final Person[] people = new Person[PEOPLE];
    private final Place[] places = new Place[PLACES];
    private final Elements elements = new Elements();
    private final ArrayList<Garnishment> garnishments = new ArrayList<>();
    private final ArrayList<Payment> made = new ArrayList<>();
    private int shiftsTold;
    private int leavesTold;
    private int leaveRate;
    private int leaveCarry;
    private int leaveTerm;
    private int openMonth;

    public Taxmaze() {
        for (int person = 0; person < PEOPLE; person++) {
            people[person] = new Person(person);
        }
        for (int place = 0; place < PLACES; place++) {
            places[place] = new Place();
        }
    }

    // ---- contracts, shifts, leave

    public int contract(int person, int place, int from, int to, boolean byHours, int norm, int pay)
            throws IndexOutOfBoundsException, IllegalArgumentException, IllegalStateException {
        needThere(isPerson(person) && isPlace(place) && isDay(from) && isDay(to));
        needFitting(from <= to && isWithin(norm, 60, 600) && isWithin(pay, 0, MILLION));
        needAllowed(contracts.size() < MOST_CONTRACTS);
        Contract contract = new Contract(person, place, from, to, byHours, norm);
        contract.pays.tell(from, pay);
        contracts.add(contract);
        people[person].contracts.add(contract);
        people[person].book.stale = true;
        return contracts.size() - 1;
    }

    public int pay(int contract, int day, int pay) throws IndexOutOfBoundsException, IllegalArgumentException {
        needThere(isContract(contract) && isDay(day));
        needFitting(isWithin(pay, 0, MILLION));
        Contract told = contracts.get(contract);
        int before = told.tellPay(day, pay);
        people[told.person].book.stale = true;
        return before;
    }

    public int shift(int contract, int day, int minute, int length)
            throws IndexOutOfBoundsException, IllegalArgumentException, IllegalStateException {
        needThere(isContract(contract) && contracts.get(contract).covers(day));
        needFitting(isWithin(minute, 0, DAY_MINUTES - 1) && isWithin(length, 1, DAY_MINUTES));
        Contract worked = contracts.get(contract);
        int begin = day * DAY_MINUTES + minute;
        needAllowed(shiftsTold < MOST_SHIFTS && worked.isFree(begin, begin + length));
        worked.addShift(day, minute, length);
        people[worked.person].book.stale = true;
        shiftsTold++;
        return shiftsTold;
    }

    public int minutes(int contract, int day) throws IndexOutOfBoundsException {
        needThere(isContract(contract) && isDay(day));
        return contracts.get(contract).minutesOn[day];
    }

    public int overtime(int contract, int week) throws IndexOutOfBoundsException {
        needThere(isContract(contract) && isWithin(week, 0, WEEKS - 1));
        return contracts.get(contract).overtimeIn(week);
    }

    public long base(int contract, int month) throws IndexOutOfBoundsException {
        needThere(isContract(contract) && isMonth(month));
        Contract asked = contracts.get(contract);
        bookOf(asked.person);
        return asked.baseIn(month);
    }

    public void leaveRule(int rate, int carry, int term) throws IllegalArgumentException {
        needFitting(isWithin(rate, 0, 50) && isWithin(carry, 0, 500) && isWithin(term, 1, YEAR));
        leaveRate = rate;
        leaveCarry = carry;
        leaveTerm = term;
        makeAllStale();
    }

    public boolean leave(int contract, int day) throws IndexOutOfBoundsException, IllegalStateException {
        needThere(isContract(contract) && contracts.get(contract).covers(day));
        needAllowed(leavesTold < MOST_LEAVES);
        Contract left = contracts.get(contract);
        Person person = people[left.person];
        Leave leave = new Leave(left, day);
        person.tellLeave(leave);
        person.takeLeave(DAYS, leaveRate, leaveCarry, leaveTerm);
        person.book.stale = true;
        leavesTold++;
        return leave.taken;
    }

    public int leaveLeft(int person, int day) throws IndexOutOfBoundsException {
        needThere(isPerson(person) && isDay(day));
        return people[person].takeLeave(day, leaveRate, leaveCarry, leaveTerm);
    }

    // ---- elements

    public int word(int what, int number) throws IllegalArgumentException, IllegalStateException {
        needFitting(isWithin(what, BASE, GREATER));
        needFitting(what != ELEMENT || isWithin(number, 0, MOST_ELEMENTS - 1));
        needFitting(what != MONEY || isWithin(number, -MILLION, MILLION));
        needAllowed(elements.takesWord(what));
        return elements.putWord(what, number);
    }

    public int element(int number, int people) throws IndexOutOfBoundsException, IllegalArgumentException, IllegalStateException {
        needThere(isWithin(number, 0, Math.min(elements.count, MOST_ELEMENTS - 1)));
        needFitting(isWithin(people, 0, (1 << PEOPLE) - 1));
        needAllowed(elements.height == 1 && !elements.wouldNeedItself(number));
        elements.make(number, people);
        makeAllStale();
        return elements.count;
    }

    public int order(int place) throws IndexOutOfBoundsException {
        needThere(isElement(place));
        return elements.sequence[place];
    }

    public int bonus(int person, int month, int place, int cents) throws IndexOutOfBoundsException, IllegalArgumentException {
        needThere(isPerson(person) && isMonth(month) && isPlace(place));
        needFitting(isWithin(cents, -10 * MILLION, 10 * MILLION));
        int[] bonuses = people[person].bonuses[place];
        int before = bonuses[month];
        bonuses[month] = cents;
        people[person].book.stale = true;
        return before;
    }

    // ---- tables

    public void contribution(int place, int month, int thousandths, int ceiling) throws IndexOutOfBoundsException, IllegalArgumentException {
        needThere(isPlace(place) && isMonth(month));
        needFitting(isWithin(thousandths, 0, 500) && isWithin(ceiling, 0, HUNDRED_MILLION));
        places[place].parts.tell(month, thousandths);
        places[place].ceilings.tell(month, ceiling);
        makeAllStale();
    }

    public int bracket(int place, int state, int month, int end, int thousandths)
            throws IndexOutOfBoundsException, IllegalArgumentException, IllegalStateException {
        needThere(isPlace(place) && isMonth(month));
        needFitting(isState(state) && isWithin(end, 1, THOUSAND * MILLION) && isWithin(thousandths, 0, 900));
        Brackets brackets = places[place].brackets[state];
        needAllowed(brackets.takesEnd(month, end));
        brackets.add(month, end, thousandths);
        makeAllStale();
        return brackets.counts[month];
    }

    public void state(int person, int month, int state) throws IndexOutOfBoundsException, IllegalArgumentException {
        needThere(isPerson(person) && isMonth(month));
        needFitting(isState(state));
        people[person].states.tell(month, state);
        people[person].book.stale = true;
    }

    public void pension(int person, int month, int thousandths) throws IndexOutOfBoundsException, IllegalArgumentException {
        needThere(isPerson(person) && isMonth(month));
        needFitting(isWithin(thousandths, 0, 200));
        people[person].pensionParts.tell(month, thousandths);
        people[person].book.stale = true;
    }

    public long yearTax(int place, int state, int month, long amount) throws IndexOutOfBoundsException, IllegalArgumentException {
        needThere(isPlace(place) && isMonth(month));
        needFitting(isState(state) && amount >= 0 && amount <= 10000L * MILLION);
        return places[place].brackets[state].taxOn(amount, month);
    }

    // ---- slips

    public long slip(int person, int month, int what) throws IndexOutOfBoundsException, IllegalArgumentException {
        needThere(isPerson(person) && isMonth(month));
        needFitting(isWithin(what, GROSS, MATCH));
        return bookOf(person).line(month, what);
    }

    public long slipIn(int person, int month, int place, int what) throws IndexOutOfBoundsException, IllegalArgumentException {
        needThere(isPerson(person) && isMonth(month) && isPlace(place));
        needFitting(what == GROSS || what == CONTRIBUTION || what == TAX);
        return bookOf(person).lineIn(month, place, what);
    }

    public long elementOf(int element, int person, int month) throws IndexOutOfBoundsException {
        needThere(isElement(element) && isPerson(person) && isMonth(month));
        return bookOf(person).elementSums[element][month];
    }

    public long pensionOf(int person, int month) throws IndexOutOfBoundsException {
        needThere(isPerson(person) && isMonth(month));
        return bookOf(person).pensionBehind(month);
    }

    public int grossFor(int person, int month, int place, int net) throws IndexOutOfBoundsException, IllegalArgumentException {
        needThere(isPerson(person) && isMonth(month) && isPlace(place));
        needFitting(isWithin(net, 1, MILLION));
        Book book = bookOf(person);
        long wanted = book.nets[month] + net;
        long grossNow = book.gross[place][month];
        int more = 0;
        // Every step is tried: with high parts the net may fall while the bonus rises.
        for (int step = 1; step <= BONUS_STEPS && book.nets[month] < wanted; step++) {
            more = step * BONUS_STEP;
            book.gross[place][month] = grossNow + more;
            book.reckon(month, people[person], places);
        }
        boolean enough = book.nets[month] >= wanted;
        book.gross[place][month] = grossNow;
        book.reckon(month, people[person], places);
        return enough ? more : NONE;
    }

    // ---- garnishments, advances

    public int garnish(int person, int month, int rank, int total, int thousandths, int kept)
            throws IndexOutOfBoundsException, IllegalArgumentException, IllegalStateException {
        needThere(isPerson(person) && isMonth(month));
        needFitting(isWithin(rank, 0, 9) && isWithin(total, 1, HUNDRED_MILLION));
        needFitting(isWithin(thousandths, 1, THOUSAND) && isWithin(kept, 0, HUNDRED_MILLION));
        needAllowed(garnishments.size() < MOST_GARNISHMENTS);
        Garnishment garnishment = new Garnishment(person, month, rank, total, thousandths, kept);
        garnishments.add(garnishment);
        people[person].tellGarnishment(garnishment);
        people[person].book.stale = true;
        return garnishments.size() - 1;
    }

    public long takenBy(int garnishment, int month) throws IndexOutOfBoundsException {
        needThere(isWithin(garnishment, 0, garnishments.size() - 1) && isMonth(month));
        Garnishment asked = garnishments.get(garnishment);
        bookOf(asked.person);
        return asked.takenUpTo[month];
    }

    public long advance(int person, int cents) throws IndexOutOfBoundsException, IllegalArgumentException, IllegalStateException {
        needThere(isPerson(person));
        needFitting(isWithin(cents, 1, MILLION));
        needAllowed(isMonth(openMonth));
        Person paid = people[person];
        paid.advances[openMonth] += cents;
        paid.allAdvances += cents;
        paid.book.stale = true;
        return paid.allAdvances;
    }

    // ---- closing, payments, filings

    public int open() {
        return openMonth;
    }

    public int close() throws IllegalStateException {
        needAllowed(isMonth(openMonth));
        int before = made.size();
        for (int person = 0; person < PEOPLE; person++) {
            bookOf(person);
            payOut(people[person]);
        }
        for (int place = 0; place < PLACES; place++) {
            for (int month = 0; month <= openMonth; month++) {
                fileMonth(place, month);
            }
        }
        openMonth++;
        return made.size() - before;
    }

    public int payments() {
        return made.size();
    }

    public long payment(int payment, int what) throws IndexOutOfBoundsException, IllegalArgumentException {
        needThere(isPayment(payment));
        needFitting(isWithin(what, 0, 3));
        Payment asked = made.get(payment);
        switch (what) {
            case 0: return asked.person;
            case 1: return asked.month;
            case 2: return asked.cents;
            default: return asked.cameBack ? 1 : 0;
        }
    }

    public long comeBack(int payment) throws IndexOutOfBoundsException, IllegalStateException {
        needThere(isPayment(payment));
        Payment back = made.get(payment);
        needAllowed(!back.cameBack);
        back.cameBack = true;
        people[back.person].paid -= back.cents;
        return back.cents;
    }

    public long owed(int person) throws IndexOutOfBoundsException {
        needThere(isPerson(person));
        bookOf(person);
        return unpaid(people[person]);
    }

    public long filed(int place, int month, boolean taxes) throws IndexOutOfBoundsException {
        needThere(isPlace(place) && isMonth(month));
        return taxes ? places[place].filedTaxes[month] : places[place].filedContributions[month];
    }

    public int corrections(int place, int month) throws IndexOutOfBoundsException {
        needThere(isPlace(place) && isMonth(month));
        return places[place].corrected[month];
    }

    // ---- inside

    /** Pays what is unpaid to a person whose book is fresh. */
    private void payOut(Person person) {
        long cents = unpaid(person);
        if (cents > 0) {
            made.add(new Payment(person.number, openMonth, cents));
            person.paid += cents;
        }
    }

    private long unpaid(Person person) {
        long sum = 0;
        for (int month = 0; month <= openMonth && month < MONTHS; month++) {
            sum += person.book.payouts[month];
        }
        return sum - person.paid;
    }

    /** Files a month of a place by the books of all people, which are fresh. */
    private void fileMonth(int place, int month) {
        long taxes = 0;
        long contributions = 0;
        for (int person = 0; person < PEOPLE; person++) {
            Book book = people[person].book;
            taxes += book.taxes[place][month];
            contributions += book.contributions[place][month];
        }
        places[place].file(month, taxes, contributions, month < openMonth);
    }

    /** The book of a person who is there, reckoned anew if something was told since. */
    private Book bookOf(int number) {
        Person person = people[number];
        Book book = person.book;
        if (book.stale) {
            person.takeLeave(DAYS, leaveRate, leaveCarry, leaveTerm);
            person.refreshContracts();
            for (int month = 0; month < MONTHS; month++) {
                book.gather(month, person, elements);
                book.reckon(month, person, places);
            }
            book.share(person);
            book.stale = false;
        }
        return book;
    }

    private void makeAllStale() {
        for (int person = 0; person < PEOPLE; person++) {
            people[person].book.stale = true;
        }
    }

    private boolean isContract(int contract) {
        return contract >= 0 && contract < contracts.size();
    }

    private boolean isElement(int element) {
        return element >= 0 && element < elements.count;
    }

    private boolean isPayment(int payment) {
        return payment >= 0 && payment < made.size();
    }

    private static boolean isPerson(int person) {
        return person >= 0 && person < PEOPLE;
    }

    private static boolean isPlace(int place) {
        return place >= 0 && place < PLACES;
    }

    private static boolean isState(int state) {
        return state >= 0 && state < STATES;
    }

    private static boolean isMonth(int month) {
        return month >= 0 && month < MONTHS;
    }

    private static boolean isDay(int day) {
        return day >= 0 && day < DAYS;
    }

    private static boolean isWithin(int number, int least, int most) {
        return number >= least && number <= most;
    }

    private static void needThere(boolean there) {
        if (!there) {
            throw new IndexOutOfBoundsException("there is no such one");
        }
    }

    private static void needFitting(boolean fitting) {
        if (!fitting) {
            throw new IllegalArgumentException("an argument is out of range");
        }
    }

    private static void needAllowed(boolean allowed) {
        if (!allowed) {
            throw new IllegalStateException("this cannot be told now");
        }
    }

    /** Ways to divide; a divisor is above 0. */
    static final class Cents {
        static long rounded(long number, long divisor) {
            return divisor <= 0 ? 0 : Math.floorDiv(2 * number + divisor, 2 * divisor);
        }

        static long roundedDown(long number, long divisor) {
            return divisor <= 0 ? 0 : Math.floorDiv(number, divisor);
        }
    }

    /** A number for each month or day, told from some of them on. */
    static final class Steps {
        final int[] holding;
        final boolean[] told;

        Steps(int length) {
            holding = new int[Math.max(length, 0)];
            told = new boolean[Math.max(length, 0)];
        }

        void tell(int from, int number) {
            if (from < 0 || from >= holding.length) {
                return;
            }
            told[from] = true;
            holding[from] = number;
            for (int later = from + 1; later < holding.length && !told[later]; later++) {
                holding[later] = number;
            }
        }

        int at(int when) {
            return when < 0 || when >= holding.length ? 0 : holding[when];
        }
    }

    static final class Contract {
        final int person;
        final int place;
        final int from;
        final int to;
        final boolean byHours;
        final int norm;
        final Steps pays = new Steps(DAYS);
        final int[] minutesOn = new int[DAYS];
        final int[] begins = new int[MOST_SHIFTS];
        final int[] ends = new int[MOST_SHIFTS];
        int shifts;
        boolean stale = true;
        final long[] worked = new long[MONTHS];
        final int[] minutesIn = new int[MONTHS];
        final long[] leavePay = new long[MONTHS];

        Contract(int person, int place, int from, int to, boolean byHours, int norm) {
            this.person = person;
            this.place = place;
            this.from = from;
            this.to = to;
            this.byHours = byHours;
            this.norm = norm;
        }

        boolean covers(int day) {
            return day >= from && day <= to;
        }

        boolean hasDayIn(int month) {
            return from < (month + 1) * MONTH_DAYS && to >= month * MONTH_DAYS;
        }

        int payOn(int day) {
            return pays.at(covers(day) ? day : to);
        }

        int tellPay(int day, int pay) {
            int first = Math.max(day, from);
            int before = payOn(first);
            if (covers(first)) {
                pays.tell(first, pay);
                stale = true;
            }
            return before;
        }

        boolean isFree(int begin, int end) {
            for (int shift = 0; shift < shifts; shift++) {
                if (begin < ends[shift] && begins[shift] < end) {
                    return false;
                }
            }
            return true;
        }

        void addShift(int day, int minute, int length) {
            if (shifts >= MOST_SHIFTS || day < 0 || day >= DAYS) {
                return;
            }
            begins[shifts] = day * DAY_MINUTES + minute;
            ends[shifts] = begins[shifts] + length;
            shifts++;
            int counting = length > 360 ? length - 30 : length;
            int today = Math.min(counting, DAY_MINUTES - minute);
            minutesOn[day] += today;
            if (day + 1 < DAYS) {
                minutesOn[day + 1] += counting - today;
            }
            stale = true;
        }

        int overtimeIn(int week) {
            int byDay = 0;
            int all = 0;
            int first = week * WEEK_DAYS;
            for (int day = first; day < first + WEEK_DAYS && day < DAYS; day++) {
                byDay += Math.max(0, minutesOn[day] - norm);
                all += minutesOn[day];
            }
            return Math.max(byDay, all - 5 * norm);
        }

        /** What was reckoned when the contract was refreshed last. */
        long baseIn(int month) {
            return worked[month] + leavePay[month];
        }

        void refresh() {
            for (int month = 0; month < MONTHS; month++) {
                leavePay[month] = 0;
            }
            if (stale) {
                fillWorked();
                stale = false;
            }
        }

        private void fillWorked() {
            for (int month = 0; month < MONTHS; month++) {
                fillMonth(month);
            }
            for (int week = 0; week < WEEKS; week++) {
                int last = Math.min(week * WEEK_DAYS + WEEK_DAYS, DAYS) - 1;
                worked[last / MONTH_DAYS] += overtimePay(overtimeIn(week), last);
            }
        }

        private void fillMonth(int month) {
            long sum = 0;
            int minutes = 0;
            int first = month * MONTH_DAYS;
            for (int day = first; day < first + MONTH_DAYS; day++) {
                minutes += minutesOn[day];
                if (byHours) {
                    sum += (long) minutesOn[day] * payOn(day);
                } else if (covers(day)) {
                    sum += payOn(day);
                }
            }
            minutesIn[month] = minutes;
            worked[month] = Cents.rounded(sum, byHours ? HOUR : MONTH_DAYS);
        }

        private long overtimePay(int overtime, int day) {
            if (overtime <= 0) {
                return 0;
            }
            long hourly = byHours ? payOn(day) : Cents.rounded((long) HOUR * payOn(day), (long) MONTH_DAYS * norm);
            return Cents.rounded(hourly * overtime, 2 * HOUR);
        }
    }

    static final class Leave {
        final Contract contract;
        final int day;
        boolean taken;

        Leave(Contract contract, int day) {
            this.contract = contract;
            this.day = day;
        }
    }

    /** What was told of a person, and the book of what it comes to. */
    static final class Person {
        final int number;
        final ArrayList<Contract> contracts = new ArrayList<>();
        final ArrayList<Leave> leaves = new ArrayList<>();
        final ArrayList<Garnishment> garnishments = new ArrayList<>();
        final Steps states = new Steps(MONTHS);
        final Steps pensionParts = new Steps(MONTHS);
        final int[][] bonuses = new int[PLACES][MONTHS];
        final long[] advances = new long[MONTHS];
        long allAdvances;
        long paid;
        final Book book = new Book();

        Person(int number) {
            this.number = number;
        }

        boolean worksOn(int day) {
            for (int i = 0; i < contracts.size(); i++) {
                if (contracts.get(i).covers(day)) {
                    return true;
                }
            }
            return false;
        }

        void tellLeave(Leave leave) {
            int at = leaves.size();
            while (at > 0 && leaves.get(at - 1).day > leave.day) {
                at--;
            }
            leaves.add(at, leave);
        }

        void tellGarnishment(Garnishment garnishment) {
            int at = garnishments.size();
            while (at > 0 && garnishments.get(at - 1).rank > garnishment.rank) {
                at--;
            }
            garnishments.add(at, garnishment);
        }

        /** Goes through the leave told for days ahead of this one; what is left when this one begins. */
        int takeLeave(int until, int rate, int carry, int term) {
            int carried = 0;
            int fresh = 0;
            int next = 0;
            for (int month = 0; month < MONTHS && month * MONTH_DAYS <= until; month++) {
                int first = month * MONTH_DAYS;
                if (worksOn(first - 1)) {
                    fresh += rate;
                }
                if (month == YEAR) {
                    carried = Math.min(fresh, carry);
                    fresh = 0;
                }
                if (month == YEAR + term) {
                    carried = 0;
                }
                int end = Math.min(until, first + MONTH_DAYS);
                for (; next < leaves.size() && leaves.get(next).day < end; next++) {
                    Leave leave = leaves.get(next);
                    leave.taken = carried + fresh >= LEAVE_DAY;
                    if (leave.taken) {
                        int ofCarried = Math.min(carried, LEAVE_DAY);
                        carried -= ofCarried;
                        fresh -= LEAVE_DAY - ofCarried;
                    }
                }
            }
            return carried + fresh;
        }

        /** Makes the bases of all contracts fresh; which leave is taken has to be found ahead of it. */
        void refreshContracts() {
            for (int i = 0; i < contracts.size(); i++) {
                contracts.get(i).refresh();
            }
            for (int i = 0; i < leaves.size(); i++) {
                Leave leave = leaves.get(i);
                Contract contract = leave.contract;
                if (leave.taken && contract.byHours) {
                    contract.leavePay[leave.day / MONTH_DAYS] += Cents.rounded((long) contract.norm * contract.payOn(leave.day), HOUR);
                }
            }
        }
    }

    /** The elements by their numbers; the row behind them is the draft. */
    static final class Elements {
        private static final int DRAFT = MOST_ELEMENTS;
        private static final int ALL_ROWS = MOST_ELEMENTS + 1;

        int count;
        int height;
        final int[][] words = new int[ALL_ROWS][MOST_WORDS];
        final int[][] numbers = new int[ALL_ROWS][MOST_WORDS];
        final int[] lengths = new int[ALL_ROWS];
        final int[] needs = new int[ALL_ROWS];
        final int[] sets = new int[MOST_ELEMENTS];
        final int[] sequence = new int[MOST_ELEMENTS];
        final long[] values = new long[MOST_ELEMENTS];
        final long[] pile = new long[MOST_WORDS];

        boolean takesWord(int what) {
            return lengths[DRAFT] < MOST_WORDS && (what < PLUS || height >= 2);
        }

        int putWord(int what, int number) {
            int at = lengths[DRAFT];
            if (at < MOST_WORDS) {
                words[DRAFT][at] = what;
                numbers[DRAFT][at] = number;
                lengths[DRAFT] = at + 1;
                height += what < PLUS ? 1 : -1;
                needs[DRAFT] |= what == ELEMENT ? 1 << number : 0;
            }
            return lengths[DRAFT];
        }

        boolean wouldNeedItself(int number) {
            int needed = needs[DRAFT];
            // A chain of needs has at most as many links as there are elements.
            for (int round = 0; round < count; round++) {
                for (int other = 0; other < count; other++) {
                    if (other != number && isIn(other, needed)) {
                        needed |= needs[other];
                    }
                }
            }
            return isIn(number, needed);
        }

        void make(int number, int set) {
            if (number < 0 || number >= MOST_ELEMENTS) {
                return;
            }
            System.arraycopy(words[DRAFT], 0, words[number], 0, MOST_WORDS);
            System.arraycopy(numbers[DRAFT], 0, numbers[number], 0, MOST_WORDS);
            lengths[number] = lengths[DRAFT];
            needs[number] = needs[DRAFT];
            sets[number] = set;
            lengths[DRAFT] = 0;
            needs[DRAFT] = 0;
            height = 0;
            count = Math.max(count, number + 1);
            arrange();
        }

        private void arrange() {
            int placed = 0;
            for (int place = 0; place < count; place++) {
                sequence[place] = lowestReady(placed);
                placed |= 1 << sequence[place];
            }
        }

        private int lowestReady(int placed) {
            int waiting = ((1 << count) - 1) & ~placed;
            for (int number = 0; number < count; number++) {
                if (isIn(number, waiting) && (needs[number] & waiting) == 0) {
                    return number;
                }
            }
            return 0;
        }

        /** Fills in what each element comes to for a person. */
        void reckonAll(int person, long bases, long hours) {
            for (int number = 0; number < MOST_ELEMENTS; number++) {
                values[number] = 0;
            }
            for (int place = 0; place < count; place++) {
                int number = sequence[place];
                if (isIn(person, sets[number])) {
                    values[number] = comesTo(number, bases, hours);
                }
            }
        }

        private long comesTo(int element, long bases, long hours) {
            int high = 0;
            for (int at = 0; at < lengths[element]; at++) {
                int what = words[element][at];
                if (what < PLUS && high < MOST_WORDS) {
                    pile[high] = bounded(single(what, numbers[element][at], bases, hours));
                    high++;
                } else if (high >= 2) {
                    pile[high - 2] = bounded(joined(what, pile[high - 2], pile[high - 1]));
                    high--;
                }
            }
            return pile[0];
        }

        private long single(int what, int number, long bases, long hours) {
            switch (what) {
                case BASE: return bases;
                case HOURS: return hours;
                case ELEMENT: return number >= 0 && number < MOST_ELEMENTS ? values[number] : 0;
                default: return number;
            }
        }

        private static long joined(int what, long lower, long upper) {
            switch (what) {
                case PLUS: return lower + upper;
                case MINUS: return lower - upper;
                case TIMES: return lower * upper;
                case PERMILLE: return Cents.rounded(lower * upper, THOUSAND);
                case LESSER: return Math.min(lower, upper);
                default: return Math.max(lower, upper);
            }
        }

        private static long bounded(long number) {
            return Math.max(-HUNDRED_MILLION, Math.min(HUNDRED_MILLION, number));
        }

        private static boolean isIn(int number, int set) {
            return (set >> number & 1) == 1;
        }
    }

    /** The brackets of a place for a state; a month with a count above 0 begins a new table. */
    static final class Brackets {
        final int[] counts = new int[MONTHS];
        final int[][] ends = new int[MOST_BRACKETS][MONTHS];
        final int[][] parts = new int[MOST_BRACKETS][MONTHS];

        boolean takesEnd(int month, int end) {
            int count = counts[month];
            return count == 0 || count < MOST_BRACKETS && end > ends[count - 1][month];
        }

        void add(int month, int end, int part) {
            int count = counts[month];
            if (count < MOST_BRACKETS) {
                ends[count][month] = end;
                parts[count][month] = part;
                counts[month] = count + 1;
            }
        }

        long taxOn(long amount, int month) {
            int begun = month;
            while (begun > 0 && counts[begun] == 0) {
                begun--;
            }
            long tax = 0;
            long lower = 0;
            for (int bracket = 0; bracket < counts[begun] && bracket < MOST_BRACKETS; bracket++) {
                long upper = ends[bracket][begun];
                long inside = Math.max(0, Math.min(amount, upper) - lower);
                tax += inside * parts[bracket][begun] / THOUSAND;
                lower = upper;
            }
            return tax;
        }
    }

    /** The tables of a place, and what was filed for it. */
    static final class Place {
        final Steps parts = new Steps(MONTHS);
        final Steps ceilings = new Steps(MONTHS);
        final Brackets[] brackets = new Brackets[STATES];
        final long[] filedTaxes = new long[MONTHS];
        final long[] filedContributions = new long[MONTHS];
        final int[] corrected = new int[MONTHS];

        Place() {
            for (int state = 0; state < STATES; state++) {
                brackets[state] = new Brackets();
            }
        }

        void file(int month, long taxes, long contributions, boolean again) {
            if (again && (filedTaxes[month] != taxes || filedContributions[month] != contributions)) {
                corrected[month]++;
            }
            filedTaxes[month] = taxes;
            filedContributions[month] = contributions;
        }
    }

    /** What each month comes to for a person; rows by place hold a month's own sums, those of the year the sums so far. */
    static final class Book {
        boolean stale = true;
        final long[][] gross = new long[PLACES][MONTHS];
        final long[][] contributions = new long[PLACES][MONTHS];
        final long[][] taxes = new long[PLACES][MONTHS];
        final long[][] grossOfYear = new long[PLACES][MONTHS];
        final long[][] countedOfYear = new long[PLACES][MONTHS];
        final long[][] taxedOfYear = new long[PLACES][MONTHS];
        final long[][] taxOfYear = new long[PLACES][MONTHS];
        final long[][] elementSums = new long[MOST_ELEMENTS][MONTHS];
        final int[] homes = new int[MONTHS];
        final long[] pensions = new long[MONTHS];
        final long[] matches = new long[MONTHS];
        final long[] nets = new long[MONTHS];
        final long[] taken = new long[MONTHS];
        final long[] payouts = new long[MONTHS];

        /** Adds up the gross of a month by places; the contracts of the person are fresh. */
        void gather(int month, Person person, Elements elements) {
            for (int place = 0; place < PLACES; place++) {
                gross[place][month] = person.bonuses[place][month];
            }
            int home = NONE;
            long bases = 0;
            long minutes = 0;
            for (int i = 0; i < person.contracts.size(); i++) {
                Contract contract = person.contracts.get(i);
                long base = contract.baseIn(month);
                gross[contract.place][month] += base;
                bases += base;
                minutes += contract.minutesIn[month];
                if (home == NONE && contract.hasDayIn(month)) {
                    home = contract.place;
                }
            }
            homes[month] = home == NONE ? 0 : home;
            elements.reckonAll(person.number, bases, minutes / HOUR);
            for (int element = 0; element < MOST_ELEMENTS; element++) {
                elementSums[element][month] = elements.values[element];
                gross[homes[month]][month] += elements.values[element];
            }
        }

        /** From the gross of a month to its net; the months ahead of it in the year are reckoned already. */
        void reckon(int month, Person person, Place[] places) {
            long all = 0;
            long less = 0;
            for (int place = 0; place < PLACES; place++) {
                contribute(month, place, places[place]);
                all += gross[place][month];
                less += contributions[place][month];
            }
            int part = person.pensionParts.at(month);
            pensions[month] = Math.max(0, Cents.rounded(all * part, THOUSAND));
            matches[month] = Math.max(0, Cents.rounded(all * Math.min(part, MOST_MATCH), THOUSAND));
            less += pensions[month];
            for (int place = 0; place < PLACES; place++) {
                tax(month, place, places[place].brackets[person.states.at(month)]);
                less += taxes[place][month];
            }
            nets[month] = all - less;
        }

        private void contribute(int month, int place, Place table) {
            long soFar = earlier(grossOfYear, month, place) + gross[place][month];
            long counted = earlier(countedOfYear, month, place);
            long counts = Math.max(0, Math.min(soFar, table.ceilings.at(month)) - counted);
            contributions[place][month] = Cents.rounded(counts * table.parts.at(month), THOUSAND);
            grossOfYear[place][month] = soFar;
            countedOfYear[place][month] = counted + counts;
        }

        private void tax(int month, int place, Brackets brackets) {
            long taxed = gross[place][month] - contributions[place][month];
            if (place == homes[month]) {
                taxed -= pensions[month];
            }
            long soFar = earlier(taxedOfYear, month, place) + taxed;
            int gone = month % YEAR + 1;
            long ofYear = brackets.taxOn(Cents.roundedDown(Math.max(0, soFar) * YEAR, gone), month);
            long due = ofYear * gone / YEAR;
            taxes[place][month] = due - earlier(taxOfYear, month, place);
            taxedOfYear[place][month] = soFar;
            taxOfYear[place][month] = due;
        }

        private static long earlier(long[][] sums, int month, int place) {
            return month % YEAR == 0 ? 0 : sums[place][month - 1];
        }

        /** Gives garnishments and advances their parts of each net. */
        void share(Person person) {
            long advanced = 0;
            for (int month = 0; month < MONTHS; month++) {
                long left = nets[month];
                for (int i = 0; i < person.garnishments.size(); i++) {
                    left -= person.garnishments.get(i).take(month, nets[month], left);
                }
                taken[month] = nets[month] - left;
                advanced += person.advances[month];
                long paidBack = Math.max(0, Math.min(advanced, left));
                advanced -= paidBack;
                payouts[month] = left - paidBack;
            }
        }

        long pensionBehind(int month) {
            long own = 0;
            long added = 0;
            int months = 0;
            for (int earlier = 0; earlier <= month && earlier < MONTHS; earlier++) {
                own += pensions[earlier];
                added += matches[earlier];
                months += pensions[earlier] > 0 ? 1 : 0;
            }
            return months >= VESTING_MONTHS ? own + added : own;
        }

        long line(int month, int what) {
            switch (what) {
                case PENSION: return pensions[month];
                case NET: return nets[month];
                case TAKEN: return taken[month];
                case PAYOUT: return payouts[month];
                case MATCH: return matches[month];
                default: break;
            }
            long sum = 0;
            for (int place = 0; place < PLACES; place++) {
                sum += lineIn(month, place, what);
            }
            return sum;
        }

        long lineIn(int month, int place, int what) {
            switch (what) {
                case GROSS: return gross[place][month];
                case CONTRIBUTION: return contributions[place][month];
                default: return taxes[place][month];
            }
        }
    }

    static final class Garnishment {
        final int person;
        final int begin;
        final int rank;
        final int total;
        final int part;
        final int kept;
        final long[] takenUpTo = new long[MONTHS];

        Garnishment(int person, int begin, int rank, int total, int part, int kept) {
            this.person = person;
            this.begin = begin;
            this.rank = rank;
            this.total = total;
            this.part = part;
            this.kept = kept;
        }

        long take(int month, long net, long left) {
            long before = month == 0 ? 0 : takenUpTo[month - 1];
            long takes = 0;
            if (month >= begin) {
                long most = Math.min(total - before, Cents.roundedDown(net * part, THOUSAND));
                takes = Math.max(0, Math.min(most, left - kept));
            }
            takenUpTo[month] = before + takes;
            return takes;
        }
    }

    static final class Payment {
        final int person;
        final int month;
        final long cents;
        boolean cameBack;

        Payment(int person, int month, long cents) {
            this.person = person;
            this.month = month;
            this.cents = cents;
        }
    }
}
