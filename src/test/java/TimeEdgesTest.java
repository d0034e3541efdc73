/** Terms, TIME: the ends of months, weeks and years, months that are closed, what holds from a month or day on, and rounding. */
final class TimeEdgesTest {
    private static final int BILLION = 1000000000;

    private TimeEdgesTest() {
    }

    static void run() {
        daysOfMonths();
        daysOfWeeks();
        monthsOfYears();
        closedMonths();
        pays();
        contributions();
        ceilings();
        brackets();
        states();
        pensions();
        roundingOfBases();
        roundingOfOvertime();
        roundingOfParts();
        roundingBelowNothing();
    }

    /** "A day is in the month that is its number by 30, rounded down." */
    private static void daysOfMonths() {
        int[] days = {0, 29, 30, 59, 60, 359, 360, 689, 690, 719};
        int[] due = {0, 0, 1, 1, 2, 11, 12, 22, 23, 23};
        for (int i = 0; i < days.length; i++) {
            Taxmaze x = new Taxmaze();
            x.contract(0, 0, days[i], days[i], false, 480, 3000);
            for (int month = 0; month < 24; month++) {
                Check.same("time: the day " + days[i] + " in the month " + month, x.base(0, month), month == due[i] ? 100 : 0);
            }
        }
    }

    /** "And in the week that is its number by 7, rounded down." The last week, 102, has six days. */
    private static void daysOfWeeks() {
        int[] days = {0, 6, 7, 13, 14, 706, 707, 713, 714, 719};
        int[] due = {0, 0, 1, 1, 2, 100, 101, 101, 102, 102};
        for (int i = 0; i < days.length; i++) {
            Taxmaze x = new Taxmaze();
            x.contract(0, 0, 0, 719, true, 60, 3000);
            x.shift(0, days[i], 0, 100);
            for (int week = 0; week <= 102; week++) {
                Check.same("time: the day " + days[i] + " in the week " + week, x.overtime(0, week), week == due[i] ? 40 : 0);
            }
        }
    }

    /** "There are two years, of 12 months": what counts by the year begins anew with the month 12, and with no other. */
    private static void monthsOfYears() {
        Taxmaze x = new Taxmaze();
        x.contribution(0, 0, 500, 100);
        x.bracket(0, 0, 0, BILLION, 900);
        for (int month = 0; month < 24; month++) {
            x.bonus(0, month, 0, 100);
        }
        x.bonus(1, 11, 0, 1000);
        for (int month = 0; month < 24; month++) {
            Check.same("time: the ceiling of a year, month " + month, x.slip(0, month, Taxmaze.CONTRIBUTION), month % 12 == 0 ? 50 : 0);
            Check.same("time: the tax of a year, month " + month, x.slip(1, month, Taxmaze.TAX), month == 11 ? 855 : 0);
        }
    }

    /** "All that is told goes by what is told now, also for months that are closed." */
    private static void closedMonths() {
        Taxmaze x = new Taxmaze();
        for (int month = 0; month < 24; month++) {
            x.close();
        }
        x.contract(0, 0, 0, 719, true, 480, 600);
        x.shift(0, 0, 0, 60);
        Check.same("time: a contract and a shift", x.slip(0, 0, Taxmaze.GROSS), 600);
        x.pay(0, 0, 1200);
        Check.same("time: a pay", x.slip(0, 0, Taxmaze.GROSS), 1200);
        x.leaveRule(10, 0, 1);
        Check.same("time: a rule for leave", x.leaveLeft(0, 30), 10);
        Check.same("time: leave", x.leave(0, 30), true);
        Check.same("time: it is paid", x.slip(0, 1, Taxmaze.GROSS), 9600);
        x.bonus(0, 0, 0, 800);
        Check.same("time: a bonus", x.slip(0, 0, Taxmaze.GROSS), 2000);
        x.word(Taxmaze.MONEY, 1000);
        x.element(0, 1);
        Check.same("time: an element", x.slip(0, 0, Taxmaze.GROSS), 3000);
        x.contribution(0, 0, 100, 3000);
        Check.same("time: a contribution", x.slip(0, 0, Taxmaze.CONTRIBUTION), 300);
        x.bracket(0, 0, 0, BILLION, 100);
        Check.same("time: a bracket", x.slip(0, 0, Taxmaze.TAX), 270);
        x.state(0, 0, 1);
        Check.same("time: a state", x.slip(0, 0, Taxmaze.TAX), 0);
        x.pension(0, 0, 100);
        Check.same("time: a pension", x.slip(0, 0, Taxmaze.PENSION), 300);
        x.garnish(0, 0, 0, 1000, 1000, 0);
        Check.same("time: a garnishment", x.takenBy(0, 0), 1000);
        Check.same("time: all of it", x.slip(0, 0, Taxmaze.PAYOUT), 3000 - 300 - 300 - 1000);
    }

    /** "Holds until the next later one from which on something else was told; of the same one, the one told last counts." */
    private static void pays() {
        Taxmaze x = new Taxmaze();
        x.contract(0, 0, 0, 719, false, 480, 30000);
        Check.same("3: from the last day on", x.pay(0, 719, 60000), 30000);
        Check.same("3: the last month", x.base(0, 23), 31000);
        Check.same("3: from an earlier day on", x.pay(0, 690, 90000), 30000);
        Check.same("3: up to the last day", x.base(0, 23), 89000);
        Check.same("3: from the first day on", x.pay(0, 0, 3000), 30000);
        Check.same("3: the first month", x.base(0, 0), 3000);
        Check.same("3: the last but one", x.base(0, 22), 3000);
        Check.same("3: what was told for later days holds there", x.base(0, 23), 89000);
        Check.same("3: what holds already, told anew", x.pay(0, 690, 3000), 90000);
        x.pay(0, 300, 6000);
        Check.same("3: ahead of it", x.base(0, 9), 3000);
        Check.same("3: from there on", x.base(0, 10), 6000);
        Check.same("3: it ends where the same as ahead of it was told", x.base(0, 23), 4900);
        x.pay(0, 690, 1500);
        Check.same("3: told thrice", x.pay(0, 690, 2000), 1500);
        Check.same("3: the last one counts", x.base(0, 23), 3933);
        Check.same("3: it ends there still", x.base(0, 22), 6000);
    }

    private static Taxmaze withMonths(int place, int cents) {
        Taxmaze x = new Taxmaze();
        for (int month = 0; month < 24; month++) {
            x.bonus(0, month, place, cents);
        }
        return x;
    }

    private static void line(String what, Taxmaze x, int line, int... monthsAndDue) {
        for (int i = 0; i < monthsAndDue.length; i += 2) {
            Check.same(what + ", month " + monthsAndDue[i], x.slip(0, monthsAndDue[i], line), monthsAndDue[i + 1]);
        }
    }

    private static void contributions() {
        Taxmaze x = withMonths(2, 1000);
        x.contribution(2, 0, 10, 100000000);
        line("15: from the first month on", x, Taxmaze.CONTRIBUTION, 0, 10, 11, 10, 12, 10, 23, 10);
        x.contribution(2, 6, 20, 100000000);
        line("15: from a month on", x, Taxmaze.CONTRIBUTION, 5, 10, 6, 20, 11, 20, 12, 20, 23, 20);
        x.contribution(2, 3, 30, 100000000);
        line("15: from an earlier month on", x, Taxmaze.CONTRIBUTION, 2, 10, 3, 30, 5, 30, 6, 20, 23, 20);
        x.contribution(2, 6, 30, 100000000);
        x.contribution(2, 4, 40, 100000000);
        line("15: it ends where the same as ahead of it was told", x, Taxmaze.CONTRIBUTION, 3, 30, 4, 40, 5, 40, 6, 30, 23, 30);
        x.contribution(2, 23, 50, 100000000);
        x.contribution(2, 23, 60, 100000000);
        line("15: the last month, told twice", x, Taxmaze.CONTRIBUTION, 22, 30, 23, 60);
        x.contribution(2, 4, 0, 100000000);
        line("15: 0 is something else too", x, Taxmaze.CONTRIBUTION, 3, 30, 4, 0, 5, 0, 6, 30);
    }

    private static void ceilings() {
        Taxmaze x = withMonths(1, 1000);
        x.contribution(1, 0, 100, 100000000);
        x.contribution(1, 6, 100, 6500);
        line("15: a ceiling from a month on", x, Taxmaze.CONTRIBUTION, 5, 100, 6, 50, 7, 0, 11, 0, 12, 100, 17, 100, 18, 50, 19, 0);
        x.contribution(1, 3, 100, 3500);
        line("15: from an earlier month on", x, Taxmaze.CONTRIBUTION, 2, 100, 3, 50, 4, 0, 5, 0, 6, 300, 7, 0, 18, 50);
        x.contribution(1, 12, 100, 100000000);
        line("15: from the next year on", x, Taxmaze.CONTRIBUTION, 6, 300, 12, 100, 18, 100, 23, 100);
        x.contribution(1, 3, 100, 0);
        x.contribution(1, 3, 100, 4000);
        line("15: the one told last counts", x, Taxmaze.CONTRIBUTION, 3, 100, 4, 0, 6, 250);
    }

    private static void brackets() {
        Taxmaze x = new Taxmaze();
        x.bracket(1, 1, 23, 1000, 100);
        Check.same("16: ahead of the last month", x.yearTax(1, 1, 22, 1000), 0);
        Check.same("16: the last month", x.yearTax(1, 1, 23, 1000), 100);
        x.bracket(1, 1, 0, 1000, 200);
        Check.same("16: the first month", x.yearTax(1, 1, 0, 1000), 200);
        Check.same("16: over the end of the year", x.yearTax(1, 1, 12, 1000), 200);
        Check.same("16: up to the next one", x.yearTax(1, 1, 22, 1000), 200);
        Check.same("16: that one holds", x.yearTax(1, 1, 23, 1000), 100);
        x.bracket(1, 1, 12, 1000, 0);
        Check.same("16: brackets of 0 are brackets too", x.yearTax(1, 1, 12, 1000), 0);
        Check.same("16: ahead of these", x.yearTax(1, 1, 11, 1000), 200);
        Check.same("16: a second one of an earlier month", x.bracket(1, 1, 0, 3000, 300), 2);
        Check.same("16: counts from that month on", x.yearTax(1, 1, 11, 3000), 800);
        Check.same("16: but no more where others began", x.yearTax(1, 1, 12, 3000) + x.yearTax(1, 1, 23, 3000), 100);
        Check.same("16: of the other state there are none", x.yearTax(1, 0, 23, 3000), 0);
    }

    private static void states() {
        Taxmaze x = withMonths(0, 1200);
        x.bracket(0, 1, 0, BILLION, 100);
        x.state(0, 23, 1);
        line("17: the last month", x, Taxmaze.TAX, 22, 0, 23, 1440);
        x.state(0, 12, 1);
        line("17: from the next year on", x, Taxmaze.TAX, 11, 0, 12, 120, 22, 120, 23, 120);
        x.state(0, 12, 0);
        line("17: the one told last counts", x, Taxmaze.TAX, 12, 0, 22, 0, 23, 1440);
        x.state(0, 6, 1);
        line("17: from an earlier month on", x, Taxmaze.TAX, 5, 0, 6, 840, 7, 120, 11, 120, 12, 0, 23, 1440);
        x.state(0, 12, 1);
        x.state(0, 0, 1);
        line("17: from the first one on", x, Taxmaze.TAX, 0, 120, 6, 120, 12, 120, 23, 120);
        x.state(0, 3, 0);
        line("17: up to the next one", x, Taxmaze.TAX, 2, 120, 3, -360, 5, 0, 6, 840);
    }

    private static void pensions() {
        Taxmaze x = withMonths(2, 1000);
        x.pension(0, 23, 10);
        line("18: the last month", x, Taxmaze.PENSION, 0, 0, 22, 0, 23, 10);
        x.pension(0, 0, 20);
        line("18: up to the next one, over the end of the year", x, Taxmaze.PENSION, 0, 20, 11, 20, 12, 20, 22, 20, 23, 10);
        x.pension(0, 12, 20);
        x.pension(0, 6, 30);
        line("18: it ends where the same as ahead of it was told", x, Taxmaze.PENSION, 5, 20, 6, 30, 11, 30, 12, 20, 22, 20);
        x.pension(0, 6, 40);
        line("18: the one told last counts", x, Taxmaze.PENSION, 5, 20, 6, 40, 11, 40, 12, 20);
        x.pension(0, 6, 0);
        line("18: 0 is something else too", x, Taxmaze.PENSION, 5, 20, 6, 0, 11, 0, 12, 20);
    }

    /** "To round is to the nearest whole number, halves up." By hours of sixty minutes, by months of thirty days, paid leave. */
    private static void roundingOfBases() {
        int[][] hours = {{29, 0}, {30, 1}, {31, 1}, {89, 1}, {90, 2}, {91, 2}};
        for (int[] one : hours) {
            Taxmaze x = new Taxmaze();
            x.contract(0, 0, 0, 719, true, 480, 1);
            x.shift(0, 0, 0, one[0]);
            Check.same("7: minutes at a cent an hour, " + one[0], x.base(0, 0), one[1]);
        }
        int[][] months = {{14, 0}, {15, 1}, {16, 1}, {44, 1}, {45, 2}, {46, 2}};
        for (int[] one : months) {
            Taxmaze x = new Taxmaze();
            x.contract(0, 0, 0, 0, false, 480, one[0]);
            Check.same("7: a day of a month's pay, " + one[0], x.base(0, 0), one[1]);
        }
        int[][] leaves = {{89, 1, 1}, {90, 1, 2}, {91, 1, 2}, {89, 3, 4}, {90, 3, 5}, {69, 10, 12}, {63, 10, 11}, {60, 0, 0}};
        for (int[] one : leaves) {
            Taxmaze x = new Taxmaze();
            x.contract(0, 0, 0, 719, true, one[0], one[1]);
            x.leaveRule(10, 0, 1);
            Check.same("9: it is paid", x.leave(0, 30), true);
            Check.same("9: a day of leave of " + one[0] + " minutes at " + one[1], x.base(0, 1), one[2]);
        }
    }

    /** Overtime is rounded by itself; by months the pay of an hour is rounded ahead of it. */
    private static void roundingOfOvertime() {
        int[][] hours = {{119, 2 + 0}, {120, 2 + 1}, {121, 2 + 1}, {239, 4 + 1}, {240, 4 + 2}, {241, 4 + 2}};
        for (int[] one : hours) {
            Taxmaze x = new Taxmaze();
            x.contract(0, 0, 0, 719, true, 60, 1);
            x.shift(0, 0, 0, one[0]);
            Check.same("7: overtime at a cent an hour, of minutes " + one[0], x.base(0, 0), one[1]);
        }
        int[][] months = {{14, 14 + 0}, {15, 15 + 1}, {16, 16 + 1}, {44, 44 + 1}, {45, 45 + 2}, {46, 46 + 2}};
        for (int[] one : months) {
            Taxmaze x = new Taxmaze();
            x.contract(0, 0, 0, 719, false, 60, one[0]);
            x.shift(0, 0, 0, 180);
            Check.same("7: two hours of overtime at a month's pay of " + one[0], x.base(0, 0), one[1]);
        }
    }

    private static void roundingOfParts() {
        int[][] cases = {{0, 0}, {499, 0}, {500, 1}, {501, 1}, {1499, 1}, {1500, 2}, {1501, 2}};
        for (int[] one : cases) {
            Taxmaze x = new Taxmaze();
            x.bonus(0, 0, 0, one[0]);
            x.contribution(0, 0, 1, 100000000);
            x.pension(0, 0, 1);
            Check.same("15: a thousandth of " + one[0], x.slip(0, 0, Taxmaze.CONTRIBUTION), one[1]);
            Check.same("18: a thousandth of " + one[0], x.slip(0, 0, Taxmaze.PENSION), one[1]);
            Check.same("18: the employer's thousandth of " + one[0], x.slip(0, 0, Taxmaze.MATCH), one[1]);
            Check.same("12: a thousandth of " + one[0], thousandth(one[0]), one[1]);
        }
    }

    private static long thousandth(int number) {
        Taxmaze x = new Taxmaze();
        x.word(Taxmaze.MONEY, number);
        x.word(Taxmaze.MONEY, 1);
        x.word(Taxmaze.PERMILLE, 0);
        x.element(0, 63);
        return x.elementOf(0, 0, 0);
    }

    /** Halves up is towards the greater number below 0 too. */
    private static void roundingBelowNothing() {
        int[][] cases = {{-499, 0}, {-500, 0}, {-501, -1}, {-1499, -1}, {-1500, -1}, {-1501, -2}};
        for (int[] one : cases) {
            Check.same("12: a thousandth of " + one[0], thousandth(one[0]), one[1]);
        }
    }
}
