/** Terms, CONTRACTS, SHIFTS: the first and last days, midnight, breaks, overtime, and days outside of a contract. */
final class ContractEdgesTest {
    private ContractEdgesTest() {
    }

    static void run() {
        bothDaysIncluded();
        severalAtOnce();
        payOutside();
        lengths();
        midnight();
        commonMinutes();
        shiftsByContracts();
        overtimeByDay();
        overtimeByWeek();
        greaterOne();
        overtimeOutside();
        lastWeek();
        payOfLastDayOfWeek();
        payOfHourByMonths();
        halfOfPay();
        onceRounded();
        greatestBase();
    }

    /** "From a day up to another one, both included." */
    private static void bothDaysIncluded() {
        Taxmaze x = new Taxmaze();
        x.contract(0, 0, 30, 30, false, 480, 3000);
        x.contract(0, 0, 59, 60, false, 480, 3000);
        x.contract(0, 0, 719, 719, false, 480, 3000);
        long[][] due = {{0, 100, 0, 0}, {0, 100, 100, 0}, {0, 0, 0, 0}};
        for (int contract = 0; contract < 3; contract++) {
            for (int month = 0; month < 4; month++) {
                Check.same("2: contract " + contract + " in the month " + month, x.base(contract, month), due[contract][month]);
            }
        }
        Check.same("2: the last day of all", x.base(2, 23), 100);
        Check.same("4: its first day", x.shift(1, 59, 0, 1), 1);
        Check.same("4: its last day", x.shift(1, 60, 0, 1), 2);
        Check.missing("4: the day ahead", () -> x.shift(1, 58, 0, 1));
        Check.missing("4: the day behind", () -> x.shift(1, 61, 0, 1));
        x.leaveRule(50, 0, 1);
        Check.same("9: its first day", x.leave(1, 59), false);
        Check.same("9: its last day", x.leave(1, 60), true);
        Check.missing("9: the day ahead", () -> x.leave(1, 58));
        Check.missing("9: the day behind", () -> x.leave(1, 61));
    }

    /** Several at once: each has its own base, norm and minutes; the person has them all. */
    private static void severalAtOnce() {
        Taxmaze x = new Taxmaze();
        x.contract(4, 0, 0, 719, true, 60, 1000);
        x.contract(4, 1, 0, 719, true, 120, 2000);
        x.contract(4, 1, 0, 719, false, 480, 3000);
        x.shift(0, 0, 0, 120);
        x.shift(1, 0, 0, 120);
        Check.same("6: overtime of the first one", x.overtime(0, 0), 60);
        Check.same("6: none of the second one", x.overtime(1, 0), 0);
        Check.same("7: the first one", x.base(0, 0), 2000 + 500);
        Check.same("7: the second one", x.base(1, 0), 4000);
        Check.same("21: by places", x.slipIn(4, 0, 0, Taxmaze.GROSS), 2500);
        Check.same("21: two of a place", x.slipIn(4, 0, 1, Taxmaze.GROSS), 7000);
        Check.same("20: all of the person", x.slip(4, 0, Taxmaze.GROSS), 9500);
        Check.same("20: nothing of others", x.slip(3, 0, Taxmaze.GROSS), 0);
    }

    /** "For days outside of the contract the pay of its last day holds, whatever was told from such a day on." */
    private static void payOutside() {
        Taxmaze x = new Taxmaze();
        x.contract(0, 0, 10, 29, true, 480, 1000);
        x.shift(0, 29, 1380, 120);
        Check.same("3: a day ahead counts as the first one", x.pay(0, 0, 2000), 1000);
        Check.same("3: so do others", x.pay(0, 9, 3000), 2000);
        Check.same("3: that is the first one", x.pay(0, 10, 4000), 3000);
        Check.same("7: the last day's", x.base(0, 0), 4000);
        Check.same("7: and behind it", x.base(0, 1), 4000);
        Check.same("3: the day behind", x.pay(0, 30, 9000), 4000);
        Check.same("3: the last day of all", x.pay(0, 719, 9000), 4000);
        Check.same("7: nothing of it on the last day", x.base(0, 0), 4000);
        Check.same("7: nor behind it", x.base(0, 1), 4000);
        Check.same("3: the last day", x.pay(0, 29, 5000), 4000);
        Check.same("7: it has it", x.base(0, 0), 5000);
        Check.same("7: and it holds behind it, whatever was told", x.base(0, 1), 5000);
        Check.same("3: behind it once more", x.pay(0, 30, 1), 5000);
    }

    /** "1 to 1440 minutes. If it has more than 360, the last 30 of them are a break, which does not count." */
    private static void lengths() {
        int[][] cases = {{1, 1}, {30, 30}, {359, 359}, {360, 360}, {361, 331}, {362, 332}, {390, 360}, {391, 361}, {1439, 1409}, {1440, 1410}};
        for (int[] one : cases) {
            Taxmaze x = new Taxmaze();
            x.contract(0, 0, 0, 719, true, 600, 60);
            x.shift(0, 5, 0, one[0]);
            Check.same("5: of " + one[0], x.minutes(0, 5), one[1]);
            Check.same("5: of " + one[0] + " on the next day", x.minutes(0, 6), 0);
        }
    }

    /** "It may go over midnight. Its minutes count for the days in which they are, but not behind the day 719." */
    private static void midnight() {
        int[][] cases = {{1439, 1, 1, 0}, {1439, 2, 1, 1}, {1080, 360, 360, 0}, {1081, 360, 359, 1}, {1080, 361, 331, 0}, {1109, 361, 331, 0},
            {1110, 361, 330, 1}, {1109, 390, 331, 29}, {1439, 1440, 1, 1409}, {0, 1440, 1410, 0}, {30, 1440, 1410, 0}, {31, 1440, 1409, 1}};
        for (int[] one : cases) {
            for (int day : new int[] {100, 718, 719}) {
                for (int last : new int[] {day, 719}) {
                    Taxmaze x = new Taxmaze();
                    x.contract(0, 0, 100, last, true, 600, 60);
                    x.shift(0, day, one[0], one[1]);
                    String what = "5: from " + one[0] + " on " + day + ", of " + one[1] + ", the contract up to " + last;
                    Check.same(what, x.minutes(0, day), one[2]);
                    Check.same(what + ", ahead", x.minutes(0, day - 1), 0);
                    if (day < 719) {
                        Check.same(what + ", behind midnight", x.minutes(0, day + 1), one[3]);
                    }
                }
            }
        }
        Taxmaze x = new Taxmaze();
        x.contract(0, 0, 719, 719, true, 600, 60);
        x.shift(0, 719, 1380, 300);
        Check.same("7: behind the day 719 nothing is paid", x.base(0, 23), 60);
        x.word(Taxmaze.HOURS, 0);
        x.element(0, 63);
        Check.same("22: nor counted", x.elementOf(0, 0, 23), 1);
        for (int day = 0; day < 100; day++) {
            Check.same("5: nor told elsewhere", x.minutes(0, day), 0);
        }
    }

    private static void withShift(Taxmaze x) {
        x.contract(0, 0, 0, 30, true, 480, 1000);
        x.contract(0, 0, 0, 30, true, 480, 1000);
        x.shift(0, 10, 1080, 361);
        x.shift(0, 20, 600, 100);
    }

    /** "It has a minute in common with another one of the contract, breaks counted." */
    private static void commonMinutes() {
        Twins.barred("4: the last minute of a break, behind midnight", ContractEdgesTest::withShift, "shift", 0, 11, 0, 1);
        Twins.barred("4: the first minute", ContractEdgesTest::withShift, "shift", 0, 10, 0, 1081);
        Twins.barred("4: over midnight into a shift", ContractEdgesTest::withShift, "shift", 0, 19, 1439, 602);
        Twins.barred("4: over midnight with its break alone", ContractEdgesTest::withShift, "shift", 0, 19, 1230, 811);
        Twins.barred("4: the same", ContractEdgesTest::withShift, "shift", 0, 20, 600, 100);
        Twins.barred("4: within it", ContractEdgesTest::withShift, "shift", 0, 20, 650, 1);
        Twins.barred("4: around it", ContractEdgesTest::withShift, "shift", 0, 20, 0, 1440);
        Twins.barred("4: the last minute", ContractEdgesTest::withShift, "shift", 0, 20, 699, 1);
        Taxmaze x = new Taxmaze();
        withShift(x);
        Check.same("4: up to the first minute", x.shift(0, 10, 0, 1080), 3);
        Check.same("4: from the minute behind the break", x.shift(0, 11, 1, 1), 4);
        Check.same("4: over midnight up to a shift", x.shift(0, 19, 1439, 601), 5);
        Check.same("4: the minute behind it", x.shift(0, 20, 700, 1), 6);
        Check.same("4: the minutes", x.minutes(0, 20), 541 + 29 + 100 + 1);
        Check.same("4: those of the other contract", x.shift(1, 10, 1080, 361), 7);
        Twins.barred("4: the last day, behind its last minute of all", y -> {
            y.contract(0, 0, 719, 719, true, 480, 1000);
            y.shift(0, 719, 1400, 1000);
        }, "shift", 0, 719, 1439, 1);
    }

    private static void shiftsByContracts() {
        Taxmaze x = new Taxmaze();
        x.contract(0, 0, 0, 30, true, 480, 1000);
        x.contract(1, 0, 0, 30, true, 480, 1000);
        x.shift(0, 3, 0, 60);
        Check.same("5: not of the other contract", x.minutes(1, 3), 0);
        x.shift(1, 3, 0, 30);
        Check.same("5: of this one", x.minutes(1, 3), 30);
        Check.same("5: of that one", x.minutes(0, 3), 60);
        Check.same("5: a day without", x.minutes(0, 719), 0);
    }

    private static Taxmaze withDays(int norm, int... minutes) {
        Taxmaze x = new Taxmaze();
        x.contract(0, 0, 0, 719, true, norm, 60);
        for (int day = 0; day < minutes.length; day++) {
            if (minutes[day] > 0) {
                x.shift(0, day, 0, minutes[day]);
            }
        }
        return x;
    }

    /** "What it has of minutes above its norm on each day, added": a day below it lessens nothing. */
    private static void overtimeByDay() {
        Check.same("6: at the norm", withDays(60, 60).overtime(0, 0), 0);
        Check.same("6: a minute above it", withDays(60, 61).overtime(0, 0), 1);
        Check.same("6: days below it", withDays(60, 61, 1, 59, 60).overtime(0, 0), 1);
        Check.same("6: two days above it", withDays(60, 70, 0, 65).overtime(0, 0), 15);
        Check.same("6: the greatest norm", withDays(600, 631, 630).overtime(0, 0), 1);
        Taxmaze x = withDays(60, 30);
        x.shift(0, 0, 30, 31);
        Check.same("6: two shifts of a day", x.overtime(0, 0), 1);
        Taxmaze y = new Taxmaze();
        y.contract(0, 0, 0, 719, true, 60, 60);
        y.shift(0, 6, 1380, 121);
        Check.same("6: each day of its own week", y.overtime(0, 0), 0);
        Check.same("6: a minute behind midnight", y.overtime(0, 1), 1);
    }

    /** "What it has of minutes in the week above 5 times its norm." */
    private static void overtimeByWeek() {
        Check.same("6: five times the norm", withDays(60, 60, 60, 60, 60, 60).overtime(0, 0), 0);
        Check.same("6: a minute on the sixth day", withDays(60, 60, 60, 60, 60, 60, 1).overtime(0, 0), 1);
        Check.same("6: seven days", withDays(60, 60, 60, 60, 60, 60, 60, 60).overtime(0, 0), 120);
        Check.same("6: the eighth is of the next week", withDays(60, 60, 60, 60, 60, 60, 60, 60, 60).overtime(0, 1), 0);
    }

    private static void greaterOne() {
        Check.same("6: both alike", withDays(60, 120, 60, 60, 60, 60).overtime(0, 0), 60);
        Check.same("6: by the day it is one more", withDays(60, 121, 59, 60, 60, 60).overtime(0, 0), 61);
        Check.same("6: by the week it is one more", withDays(60, 119, 61, 60, 60, 60, 1).overtime(0, 0), 61);
        Check.same("6: they are not added", withDays(60, 120, 120, 120, 120, 120, 120, 120).overtime(0, 0), 540);
    }

    /** Minutes behind the end of a contract count, for overtime as well. */
    private static void overtimeOutside() {
        Taxmaze x = new Taxmaze();
        x.contract(0, 0, 0, 6, true, 60, 60);
        x.shift(0, 6, 1380, 160);
        Check.same("6: of the last day", x.overtime(0, 0), 0);
        Check.same("6: behind it", x.overtime(0, 1), 40);
        Check.same("7: it is paid by the last day's pay", x.base(0, 0), 160 + 20);
    }

    /** "The last week ends with the day 719." */
    private static void lastWeek() {
        Taxmaze x = new Taxmaze();
        x.contract(0, 0, 0, 719, true, 60, 60);
        for (int day = 713; day < 720; day++) {
            x.shift(0, day, 0, 60);
        }
        Check.same("6: the last week has six days", x.overtime(0, 102), 60);
        Check.same("6: the one ahead of it has one of them", x.overtime(0, 101), 0);
        Check.same("7: it is paid in the last month", x.base(0, 23), 7 * 60 + 30);
        x.pay(0, 719, 120);
        Check.same("7: by the pay of the day 719", x.base(0, 23), 6 * 60 + 120 + 60);
        Check.same("7: not in another month", x.base(0, 22), 0);
    }

    /** "Of each week whose last day is in that month, half of the pay of that day." */
    private static void payOfLastDayOfWeek() {
        Taxmaze x = new Taxmaze();
        x.contract(0, 0, 0, 719, true, 60, 60);
        x.shift(0, 28, 0, 180);
        Check.same("7: the week 4 ends with the day 34", x.base(0, 0), 180);
        Check.same("7: which is in the month 1", x.base(0, 1), 60);
        x.pay(0, 34, 600);
        Check.same("7: by its pay", x.base(0, 1), 600);
        x.pay(0, 33, 6000);
        Check.same("7: not by that of the day ahead", x.base(0, 1), 600);
        x.pay(0, 35, 6000);
        Check.same("7: nor of the day behind", x.base(0, 1), 600);
        Taxmaze y = new Taxmaze();
        y.contract(0, 0, 0, 719, true, 60, 60);
        y.shift(0, 209, 0, 180);
        Check.same("7: the week 29 ends with the day 209", y.base(0, 6), 180 + 60);
        Check.same("7: the last one of the month 6", y.base(0, 7), 0);
        Taxmaze z = new Taxmaze();
        z.contract(0, 0, 0, 719, true, 60, 60);
        z.shift(0, 204, 0, 180);
        Check.same("7: the week 29 begins with the day 203", z.base(0, 6), 180 + 60);
    }

    /** "By months, the pay for an hour is 30 times the norm into 60 times the pay, rounded", by the pay of the week's last day. */
    private static void payOfHourByMonths() {
        int[][] cases = {{60, 30000, 1000}, {480, 30000, 125}, {600, 30000, 100}, {480, 300000, 1250}, {480, 1000000, 4167}, {599, 1000000, 3339},
            {61, 1000, 33}, {600, 149, 0}, {600, 150, 1}, {600, 449, 1}, {600, 450, 2}};
        for (int[] one : cases) {
            Taxmaze x = new Taxmaze();
            x.contract(0, 0, 0, 719, false, one[0], one[1]);
            x.shift(0, 0, 0, one[0] < 240 ? one[0] + 120 : one[0] + 150);
            Check.same("6: two hours", x.overtime(0, 0), 120);
            Check.same("7: norm " + one[0] + ", pay " + one[1], x.base(0, 0), one[1] + one[2]);
        }
        Taxmaze x = new Taxmaze();
        x.contract(0, 0, 0, 719, false, 60, 30000);
        x.shift(0, 28, 0, 180);
        Check.same("7: the month of the shift", x.base(0, 0), 30000);
        Check.same("7: the month in which the week ends", x.base(0, 1), 31000);
        x.pay(0, 35, 60000);
        Check.same("7: a pay behind its last day", x.base(0, 1), (5 * 30000 + 25 * 60000) / 30 + 1000);
        x.pay(0, 34, 60000);
        Check.same("7: the pay of its last day", x.base(0, 1), (4 * 30000 + 26 * 60000) / 30 + 2000);
        Taxmaze y = new Taxmaze();
        y.contract(0, 0, 0, 719, true, 60, 60);
        y.shift(0, 0, 0, 61);
        Check.same("7: a minute of overtime, half a cent", y.base(0, 0), 61 + 1);
    }

    /** Half of the pay times the minutes, by 60, is rounded once, with no rounding of the half. */
    private static void halfOfPay() {
        Check.same("7: half of a cent for two hours", withDays(60, 180).base(0, 0), 180 + 60);
        Taxmaze x = new Taxmaze();
        x.contract(0, 0, 0, 719, true, 60, 1);
        x.shift(0, 0, 0, 180);
        Check.same("7: half of a cent for two hours is one", x.base(0, 0), 3 + 1);
        Taxmaze y = new Taxmaze();
        y.contract(0, 0, 0, 719, true, 60, 3);
        y.shift(0, 0, 0, 300);
        Check.same("7: one and a half cents for four hours are six", y.base(0, 0), 15 + 6);
    }

    /** The pays of all days are added ahead of the rounding; so are the minutes times their pay; each week is rounded by itself. */
    private static void onceRounded() {
        Taxmaze x = new Taxmaze();
        x.contract(0, 0, 0, 1, false, 480, 10);
        Check.same("7: two thirds", x.base(0, 0), 1);
        x.pay(0, 1, 4);
        Check.same("7: less than a half", x.base(0, 0), 0);
        x.pay(0, 1, 5);
        Check.same("7: a half", x.base(0, 0), 1);
        Taxmaze y = new Taxmaze();
        y.contract(0, 0, 0, 719, true, 480, 1);
        y.shift(0, 0, 0, 15);
        y.shift(0, 20, 0, 14);
        Check.same("7: less than half an hour", y.base(0, 0), 0);
        y.shift(0, 29, 0, 1);
        Check.same("7: half an hour", y.base(0, 0), 1);
        Taxmaze z = new Taxmaze();
        z.contract(0, 0, 0, 719, true, 60, 1);
        z.shift(0, 0, 0, 110);
        z.shift(0, 7, 0, 130);
        Check.same("7: 50 minutes of a week, 70 of another", z.base(0, 0), 4 + 0 + 1);
    }

    /** The greatest pay, and more than two thousand million on the way. */
    private static void greatestBase() {
        Taxmaze x = new Taxmaze();
        x.contract(0, 0, 0, 719, true, 60, 1000000);
        for (int day = 0; day < 40; day++) {
            x.shift(0, day, 0, 1440);
        }
        Check.same("6: seven whole days", x.overtime(0, 0), 7 * 1410 - 300);
        Check.same("7: thirty whole days and four weeks", x.base(0, 0), 705000000 + 4 * 79750000);
        Check.same("7: ten whole days, and two weeks", x.base(0, 1), 235000000 + 79750000 + 56250000);
        Check.same("20: the gross", x.slip(0, 0, Taxmaze.GROSS), 1024000000);
        x.contract(1, 0, 0, 719, false, 60, 1000000);
        Check.same("7: by months", x.base(1, 23), 1000000);
    }
}
