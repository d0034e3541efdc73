/** Promises 1 to 7: a new object, contracts, pays, shifts and what they come to. */
final class ContractsTest {
    private ContractsTest() {
    }

    static void run() {
        newObject();
        contract();
        pay();
        payKeepsLaterOnes();
        shift();
        shiftsInCommon();
        mostShifts();
        minutes();
        overtime();
        baseByHours();
        baseByMonths();
        baseOfOvertime();
        baseOutsideOfContract();
    }

    private static void newObject() {
        Taxmaze x = new Taxmaze();
        Check.same("1: the open month", x.open(), 0);
        Check.same("1: payments", x.payments(), 0);
        Check.missing("1: no contract", () -> x.minutes(0, 0));
        Check.missing("1: no element", () -> x.order(0));
        Check.missing("1: no garnishment", () -> x.takenBy(0, 0));
        for (int person = 0; person < 6; person++) {
            Check.same("1: gross", x.slip(person, 11, Taxmaze.GROSS), 0);
            Check.same("1: owed", x.owed(person), 0);
            Check.same("1: leave", x.leaveLeft(person, 719), 0);
        }
        Check.same("1: filed", x.filed(2, 23, true), 0);
        Check.same("1: tax of a year", x.yearTax(0, 0, 0, 1000000), 0);
    }

    private static void contract() {
        Taxmaze x = new Taxmaze();
        Check.missing("2: person -1", () -> x.contract(-1, 0, 0, 0, true, 60, 0));
        Check.missing("2: person 6", () -> x.contract(6, 0, 0, 0, true, 60, 0));
        Check.missing("2: place -1", () -> x.contract(0, -1, 0, 0, true, 60, 0));
        Check.missing("2: place 3", () -> x.contract(0, 3, 0, 0, true, 60, 0));
        Check.missing("2: from -1", () -> x.contract(0, 0, -1, 0, true, 60, 0));
        Check.missing("2: from 720", () -> x.contract(0, 0, 720, 719, true, 60, 0));
        Check.missing("2: to 720", () -> x.contract(0, 0, 0, 720, true, 60, 0));
        Check.missing("2: to -1 ahead of a bad order", () -> x.contract(0, 0, 0, -1, true, 60, 0));
        Check.missing("2: place ahead of norm", () -> x.contract(0, 3, 0, 0, true, 59, 0));
        Check.unfit("2: to below from", () -> x.contract(0, 0, 1, 0, true, 60, 0));
        Check.unfit("2: norm 59", () -> x.contract(0, 0, 0, 0, true, 59, 0));
        Check.unfit("2: norm 601", () -> x.contract(0, 0, 0, 0, true, 601, 0));
        Check.unfit("2: pay -1", () -> x.contract(0, 0, 0, 0, true, 60, -1));
        Check.unfit("2: pay 1000001", () -> x.contract(0, 0, 0, 0, true, 60, 1000001));
        Check.same("2: the first number", x.contract(0, 0, 0, 0, true, 60, 0), 0);
        Check.same("2: at the ends", x.contract(5, 2, 719, 719, false, 600, 1000000), 1);
        for (int number = 2; number < 10; number++) {
            Check.same("2: the next number", x.contract(1, 1, 0, 719, true, 480, 1000), number);
        }
        Check.refused("2: eleven", () -> x.contract(0, 0, 0, 0, true, 60, 0));
        Check.unfit("2: norm ahead of eleven", () -> x.contract(0, 0, 0, 0, true, 601, 0));
        Check.missing("2: person ahead of eleven", () -> x.contract(6, 0, 0, 0, true, 60, 0));
        Check.missing("2: there is no eleventh", () -> x.base(10, 0));
    }

    private static void pay() {
        Taxmaze x = new Taxmaze();
        x.contract(0, 0, 30, 99, true, 480, 1000);
        Check.missing("3: contract 1", () -> x.pay(1, 0, 0));
        Check.missing("3: contract -1", () -> x.pay(-1, 0, 0));
        Check.missing("3: day -1", () -> x.pay(0, -1, 0));
        Check.missing("3: day 720 ahead of pay", () -> x.pay(0, 720, -1));
        Check.unfit("3: pay -1", () -> x.pay(0, 30, -1));
        Check.unfit("3: pay 1000001", () -> x.pay(0, 30, 1000001));
        Check.same("3: a day ahead", x.pay(0, 0, 1100), 1000);
        Check.same("3: it counted as the first one", x.pay(0, 30, 1200), 1100);
        Check.same("3: again ahead", x.pay(0, 29, 1300), 1200);
        Check.same("3: the last day", x.pay(0, 99, 1000000), 1300);
        Check.same("3: behind the end the last day's holds", x.pay(0, 100, 9), 1000000);
        Check.same("3: whatever was told there", x.pay(0, 719, 8), 1000000);
        Check.same("3: and it did not change the last day", x.pay(0, 99, 0), 1000000);
        Check.same("3: the day ahead of the last one", x.pay(0, 98, 7), 1300);
    }

    private static void payKeepsLaterOnes() {
        Taxmaze x = new Taxmaze();
        x.contract(0, 0, 0, 719, false, 480, 3000);
        Check.same("3: later", x.pay(0, 45, 6000), 3000);
        Check.same("3: then earlier", x.pay(0, 40, 9000), 3000);
        Check.same("3: up to the later one", x.base(0, 1), 10 * 100 + 5 * 300 + 15 * 200);
        Check.same("3: the same day again", x.pay(0, 40, 3000), 9000);
        Check.same("3: the last told counts", x.base(0, 1), 15 * 100 + 15 * 200);
        Check.same("3: the same pay once more", x.pay(0, 50, 6000), 6000);
        x.pay(0, 46, 0);
        Check.same("3: holds from there too", x.base(0, 1), 15 * 100 + 200 + 10 * 200);
        Check.same("3: months behind", x.base(0, 23), 6000);
    }

    private static void shift() {
        Taxmaze x = new Taxmaze();
        x.contract(0, 0, 10, 20, true, 480, 1000);
        Check.missing("4: contract 1", () -> x.shift(1, 10, 0, 1));
        Check.missing("4: contract -1", () -> x.shift(-1, 10, 0, 1));
        Check.missing("4: a day ahead", () -> x.shift(0, 9, 0, 1));
        Check.missing("4: a day behind, ahead of the length", () -> x.shift(0, 21, 0, 0));
        Check.missing("4: day -1", () -> x.shift(0, -1, 0, 1));
        Check.unfit("4: minute -1", () -> x.shift(0, 10, -1, 1));
        Check.unfit("4: minute 1440", () -> x.shift(0, 10, 1440, 1));
        Check.unfit("4: length 0", () -> x.shift(0, 10, 0, 0));
        Check.unfit("4: length 1441", () -> x.shift(0, 10, 0, 1441));
        Check.same("4: the first day", x.shift(0, 10, 0, 1), 1);
        Check.same("4: the last day and minute", x.shift(0, 20, 1439, 1440), 2);
        x.contract(0, 0, 10, 20, true, 480, 1000);
        Check.same("4: those of all contracts are told", x.shift(1, 10, 0, 1), 3);
    }

    private static void shiftsInCommon() {
        Taxmaze x = new Taxmaze();
        x.contract(0, 0, 0, 30, true, 480, 1000);
        x.contract(0, 0, 0, 30, true, 480, 1000);
        x.shift(0, 10, 100, 400);
        Check.refused("4: in the break", () -> x.shift(0, 10, 499, 1));
        Check.refused("4: around it", () -> x.shift(0, 10, 99, 402));
        Check.refused("4: the same", () -> x.shift(0, 10, 100, 400));
        Check.refused("4: the first minute", () -> x.shift(0, 10, 50, 51));
        Check.refused("4: from the day ahead", () -> x.shift(0, 9, 1439, 102));
        Check.unfit("4: the length ahead of that", () -> x.shift(0, 10, 499, 0));
        Check.same("4: right behind", x.shift(0, 10, 500, 1), 2);
        Check.same("4: right ahead", x.shift(0, 10, 50, 50), 3);
        Check.same("4: over midnight", x.shift(0, 11, 1400, 100), 4);
        Check.refused("4: behind midnight", () -> x.shift(0, 12, 59, 1));
        Check.same("4: behind its end", x.shift(0, 12, 60, 1), 5);
        Check.same("4: another contract", x.shift(1, 10, 100, 400), 6);
        Check.same("4: what was refused counts nowhere", x.minutes(0, 9), 0);
    }

    private static void mostShifts() {
        Taxmaze x = new Taxmaze();
        x.contract(0, 0, 0, 719, true, 480, 1000);
        x.contract(1, 0, 0, 719, true, 480, 1000);
        for (int told = 0; told < 40; told++) {
            Check.same("4: forty", x.shift(told % 2, told, 0, 10), told + 1);
        }
        Check.refused("4: forty-one", () -> x.shift(0, 100, 0, 10));
        Check.unfit("4: the minute ahead of that", () -> x.shift(0, 100, 1440, 10));
        Check.missing("4: the day ahead of that", () -> x.shift(0, 720, 0, 10));
        Check.same("4: nothing was told", x.minutes(0, 100), 0);
    }

    private static void minutes() {
        Taxmaze x = new Taxmaze();
        x.contract(0, 0, 0, 20, true, 480, 1000);
        x.contract(0, 0, 719, 719, true, 480, 1000);
        Check.missing("5: contract 2", () -> x.minutes(2, 0));
        Check.missing("5: day -1", () -> x.minutes(0, -1));
        Check.missing("5: day 720", () -> x.minutes(0, 720));
        x.shift(0, 0, 0, 360);
        Check.same("5: 360 have no break", x.minutes(0, 0), 360);
        x.shift(0, 1, 0, 361);
        Check.same("5: 361 have one", x.minutes(0, 1), 331);
        x.shift(0, 1, 361, 10);
        Check.same("5: two on a day", x.minutes(0, 1), 341);
        x.shift(0, 3, 1400, 370);
        Check.same("5: ahead of midnight", x.minutes(0, 3), 40);
        Check.same("5: behind midnight, less the break", x.minutes(0, 4), 300);
        x.shift(0, 6, 1075, 390);
        Check.same("5: the break is over midnight", x.minutes(0, 6), 360);
        Check.same("5: and nothing is left behind it", x.minutes(0, 7), 0);
        x.shift(0, 8, 1090, 390);
        Check.same("5: a break behind midnight", x.minutes(0, 8), 350);
        Check.same("5: ten minutes ahead of it", x.minutes(0, 9), 10);
        x.shift(0, 10, 1439, 1440);
        Check.same("5: the last minute", x.minutes(0, 10), 1);
        Check.same("5: the longest one", x.minutes(0, 11), 1409);
        x.shift(0, 20, 1430, 60);
        Check.same("5: behind the end of the contract", x.minutes(0, 21), 50);
        x.shift(1, 719, 1000, 1000);
        Check.same("5: not behind the day 719", x.minutes(1, 719), 440);
        Check.same("5: of another contract", x.minutes(1, 0), 0);
        x.contract(0, 0, 718, 719, true, 480, 1000);
        x.shift(2, 718, 1400, 100);
        Check.same("5: on the day 719", x.minutes(2, 719), 60);
    }

    private static void overtime() {
        Taxmaze x = new Taxmaze();
        x.contract(0, 0, 0, 719, true, 480, 1000);
        x.contract(0, 0, 0, 719, true, 60, 1000);
        Check.missing("6: contract 2", () -> x.overtime(2, 0));
        Check.missing("6: week -1", () -> x.overtime(0, -1));
        Check.missing("6: week 103", () -> x.overtime(0, 103));
        Check.same("6: none", x.overtime(0, 0), 0);
        x.shift(0, 0, 0, 480);
        Check.same("6: below the norm", x.overtime(0, 0), 0);
        x.shift(0, 6, 0, 600);
        Check.same("6: by the day", x.overtime(0, 0), 90);
        x.shift(0, 7, 0, 511);
        Check.same("6: one minute in the next week", x.overtime(0, 1), 1);
        Check.same("6: the week ahead is as it was", x.overtime(0, 0), 90);
        for (int day = 14; day < 21; day++) {
            x.shift(1, day, 0, 70);
        }
        Check.same("6: by the week", x.overtime(1, 2), 7 * 70 - 5 * 60);
        x.shift(1, 14, 70, 300);
        Check.same("6: by the week still, 370 by the day", x.overtime(1, 2), 490);
        x.shift(1, 14, 370, 1000);
        Check.same("6: the week's own norm is five days", x.overtime(1, 2), 490 + 970);
        x.shift(0, 719, 0, 600);
        x.shift(0, 713, 0, 600);
        Check.same("6: the last week", x.overtime(0, 102), 90);
        Check.same("6: the last but one", x.overtime(0, 101), 90);
    }

    private static void baseByHours() {
        Taxmaze x = new Taxmaze();
        x.contract(0, 0, 0, 719, true, 480, 1);
        Check.missing("7: contract 1", () -> x.base(1, 0));
        Check.missing("7: contract -1", () -> x.base(-1, 0));
        Check.missing("7: month -1", () -> x.base(0, -1));
        Check.missing("7: month 24", () -> x.base(0, 24));
        x.shift(0, 0, 0, 29);
        Check.same("7: below a half", x.base(0, 0), 0);
        x.shift(0, 1, 0, 1);
        Check.same("7: halves are rounded up, behind adding", x.base(0, 0), 1);
        x.shift(0, 29, 1410, 60);
        Check.same("7: the last half hour of the month", x.base(0, 0), 1);
        Check.same("7: the first one of the next", x.base(0, 1), 1);
        x.pay(0, 29, 1000);
        Check.same("7: each day by its pay", x.base(0, 0), 501);
        Check.same("7: the next month too", x.base(0, 1), 500);
    }

    private static void baseByMonths() {
        Taxmaze x = new Taxmaze();
        x.contract(0, 0, 30, 100, false, 480, 300001);
        Check.same("7: ahead", x.base(0, 0), 0);
        Check.same("7: a whole month", x.base(0, 1), 300001);
        Check.same("7: eleven days", x.base(0, 3), 110000);
        Check.same("7: behind", x.base(0, 4), 0);
        x.contract(0, 0, 14, 14, false, 480, 15);
        Check.same("7: a half is rounded up", x.base(1, 0), 1);
        x.contract(0, 0, 14, 14, false, 480, 14);
        Check.same("7: less is rounded down", x.base(2, 0), 0);
        x.shift(1, 14, 0, 300);
        Check.same("7: minutes do not count by months", x.base(1, 0), 1);
    }

    private static void baseOfOvertime() {
        Taxmaze x = new Taxmaze();
        x.contract(0, 0, 0, 719, true, 480, 1000);
        x.shift(0, 28, 0, 600);
        Check.same("7: the week ends in the next month", x.base(0, 0), 9500);
        Check.same("7: there half of the pay for 90 minutes", x.base(0, 1), 750);
        x.pay(0, 34, 3000);
        Check.same("7: by the pay of its last day", x.base(0, 1), 2250);
        x.pay(0, 35, 9000);
        Check.same("7: not of a day behind", x.base(0, 1), 2250);
        x.pay(0, 700, 1000);
        x.shift(0, 719, 0, 600);
        Check.same("7: the last week ends with the day 719", x.base(0, 23), 9500 + 750);
        x.contract(0, 0, 0, 719, true, 60, 1);
        x.shift(1, 0, 0, 120);
        x.shift(1, 7, 0, 120);
        Check.same("7: each week is rounded", x.base(1, 0), 4 + 1 + 1);
        x.contract(0, 0, 0, 719, false, 480, 100000);
        x.shift(2, 0, 0, 1440);
        x.shift(2, 1, 0, 1440);
        Check.same("7: by months 417 an hour, for 31 hours", x.base(2, 0), 100000 + 6464);
        x.contract(0, 0, 0, 719, false, 600, 300000);
        x.shift(3, 6, 0, 700);
        Check.same("7: by months 1000 an hour, for 70 minutes", x.base(3, 0), 300000 + 583);
        x.contract(0, 0, 0, 719, false, 600, 150);
        x.shift(4, 6, 0, 1440);
        Check.same("7: half a cent an hour is one, 810 minutes", x.base(4, 0), 150 + 7);
    }

    private static void baseOutsideOfContract() {
        Taxmaze x = new Taxmaze();
        x.contract(0, 0, 0, 3, true, 480, 1000);
        x.pay(0, 6, 5000);
        x.shift(0, 3, 0, 600);
        Check.same("7: overtime by the last day of the contract", x.base(0, 0), 9500 + 750);
        x.contract(0, 0, 0, 29, true, 480, 1000);
        x.pay(1, 30, 7000);
        x.shift(1, 29, 1380, 120);
        Check.same("7: an hour ahead of the end", x.base(1, 0), 1000);
        Check.same("7: an hour behind the end", x.base(1, 1), 1000);
        x.contract(0, 0, 0, 29, false, 60, 30000);
        x.pay(2, 30, 90000);
        x.shift(2, 29, 1380, 180);
        Check.same("7: by months no day behind the end", x.base(2, 0), 30000);
        Check.same("7: but the overtime of a week behind it", x.base(2, 1), 1000 * 60 / 120);
    }
}
