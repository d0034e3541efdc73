/** Terms, CONTRIBUTIONS, PENSION, TAX: a gross below 0, the ceiling, the sixth month, brackets at their ends, a tax below 0. */
final class MoneyEdgesTest {
    private static final int BILLION = 1000000000;
    private static final int MOST = 100000000;

    private MoneyEdgesTest() {
    }

    static void run() {
        partsOfContribution();
        ceilingReached();
        greatestCeiling();
        grossBelowNothing();
        countedBefore();
        contributionsByPlacesAndPeople();
        partsOfPension();
        pensionOfAllPlaces();
        sixthMonth();
        paidIn();
        bracketEnds();
        fourBrackets();
        greatestTax();
        noBrackets();
        aboveTheLast();
        monthsGone();
        roundedDown();
        taxedBelowNothing();
        whatIsTaxed();
        yearsApart();
        stateOfMonth();
        net();
        netForBonus();
    }

    private static Taxmaze withMonths(int place, int... cents) {
        Taxmaze x = new Taxmaze();
        for (int month = 0; month < cents.length; month++) {
            x.bonus(0, month, place, cents[month]);
        }
        return x;
    }

    private static void lines(String what, Taxmaze x, int line, int... due) {
        for (int month = 0; month < due.length; month++) {
            Check.same(what + ", month " + month, x.slip(0, month, line), due[month]);
        }
    }

    private static void partsOfContribution() {
        int[][] cases = {{0, 0}, {1, 1}, {499, 499}, {500, 500}};
        for (int[] one : cases) {
            Taxmaze x = withMonths(2, 1000);
            x.contribution(2, 0, one[0], MOST);
            lines("15: thousandths " + one[0], x, Taxmaze.CONTRIBUTION, one[1], 0);
        }
    }

    /** "But at most the ceiling of this month, less what counted in earlier months of the year, at least 0." */
    private static void ceilingReached() {
        int[][] cases = {{2999, 1000, 1000, 999, 0}, {3000, 1000, 1000, 1000, 0}, {3001, 1000, 1000, 1000, 1}, {0, 0, 0, 0, 0},
            {1, 1, 0, 0, 0}, {1000, 1000, 0, 0, 0}, {4000, 1000, 1000, 1000, 1000}};
        for (int[] one : cases) {
            Taxmaze x = withMonths(0, 2000, 2000, 2000, 2000);
            x.contribution(0, 0, 500, 2 * one[0]);
            lines("15: a ceiling of " + 2 * one[0], x, Taxmaze.CONTRIBUTION, one[1], one[2], one[3], one[4], 0);
        }
    }

    private static void greatestCeiling() {
        Taxmaze x = new Taxmaze();
        x.contribution(0, 0, 500, MOST);
        for (int month = 0; month < 24; month++) {
            x.bonus(0, month, 0, 10000000);
        }
        for (int month = 0; month < 24; month++) {
            Check.same("15: ten months of the year, month " + month, x.slip(0, month, Taxmaze.CONTRIBUTION), month % 12 < 10 ? 5000000 : 0);
        }
        x.bonus(0, 0, 0, 9999999);
        Check.same("15: a cent less ahead of it", x.slip(0, 10, Taxmaze.CONTRIBUTION), 1);
    }

    /** "A gross below 0 lessens that." */
    private static void grossBelowNothing() {
        Taxmaze x = withMonths(0, -1000, 600, 600, -400, 600);
        x.contribution(0, 0, 500, MOST);
        lines("15: behind a loss", x, Taxmaze.CONTRIBUTION, 0, 0, 100, 0, 100, 0);
        Taxmaze y = withMonths(0, 1000, -1, 1, 2, -1001, 1001);
        y.contribution(0, 0, 500, MOST);
        lines("15: what counted comes back no more", y, Taxmaze.CONTRIBUTION, 500, 0, 0, 1, 0, 0);
        Taxmaze z = withMonths(0, -1000, 1000, 1);
        z.contribution(0, 0, 500, MOST);
        lines("15: a gross so far of 0", z, Taxmaze.CONTRIBUTION, 0, 0, 1);
    }

    private static void countedBefore() {
        Taxmaze x = withMonths(0, 1000, 1000, 1000, 1000);
        x.contribution(0, 0, 500, 900);
        x.contribution(0, 1, 500, 800);
        x.contribution(0, 2, 500, 902);
        x.contribution(0, 3, 500, MOST);
        lines("15: ceilings up and down", x, Taxmaze.CONTRIBUTION, 450, 0, 1, (4000 - 902) / 2);
        x.contribution(0, 0, 0, 900);
        lines("15: what counted at no part has counted", x, Taxmaze.CONTRIBUTION, 0, 0, 1, (4000 - 902) / 2);
        x.contribution(0, 1, 500, 1000);
        lines("15: as it is told now", x, Taxmaze.CONTRIBUTION, 0, 50, 0, 1500);
    }

    private static void contributionsByPlacesAndPeople() {
        Taxmaze x = new Taxmaze();
        for (int place = 0; place < 3; place++) {
            x.contribution(place, 0, 100, 1000 * (place + 1));
            for (int month = 0; month < 2; month++) {
                x.bonus(0, month, place, 1500);
                x.bonus(1, month, place, 100);
            }
        }
        int[][] due = {{100, 0}, {150, 50}, {150, 150}};
        for (int place = 0; place < 3; place++) {
            for (int month = 0; month < 2; month++) {
                Check.same("21: the ceiling of the place " + place, x.slipIn(0, month, place, Taxmaze.CONTRIBUTION), due[place][month]);
                Check.same("21: for each person", x.slipIn(1, month, place, Taxmaze.CONTRIBUTION), 10);
            }
        }
        Check.same("20: of all places", x.slip(0, 1, Taxmaze.CONTRIBUTION), 200);
    }

    /** "The employer adds the same part, but at most 50 thousandths." */
    private static void partsOfPension() {
        int[][] cases = {{0, 0, 0}, {1, 10, 10}, {49, 490, 490}, {50, 500, 500}, {51, 510, 500}, {199, 1990, 500}, {200, 2000, 500}};
        for (int[] one : cases) {
            Taxmaze x = withMonths(1, 10000);
            x.pension(0, 0, one[0]);
            Check.same("18: thousandths " + one[0], x.slip(0, 0, Taxmaze.PENSION), one[1]);
            Check.same("18: the employer's of " + one[0], x.slip(0, 0, Taxmaze.MATCH), one[2]);
            Check.same("20: the employer's is not of the net", x.slip(0, 0, Taxmaze.NET), 10000 - one[1]);
            Check.same("18: of nobody else", x.slip(1, 0, Taxmaze.PENSION), 0);
        }
    }

    /** "Of their gross in all places, rounded, 0 if that is below 0." */
    private static void pensionOfAllPlaces() {
        int[][] cases = {{100, 200, 300, 60, 30}, {100, 200, -300, 0, 0}, {100, 200, -301, 0, 0}, {100, 200, -295, 1, 0}, {100, 200, -290, 1, 1},
            {-1000000, 0, 0, 0, 0}, {-1000000, 0, 1000100, 10, 5}};
        for (int[] one : cases) {
            Taxmaze x = new Taxmaze();
            x.pension(0, 0, 100);
            for (int place = 0; place < 3; place++) {
                x.bonus(0, 0, place, one[place]);
            }
            Check.same("18: of the sum of " + one[0] + ", " + one[1] + " and " + one[2], x.slip(0, 0, Taxmaze.PENSION), one[3]);
            Check.same("18: the employer's of " + one[0] + ", " + one[1] + " and " + one[2], x.slip(0, 0, Taxmaze.MATCH), one[4]);
        }
    }

    /** "Vested in a month, if in 6 months or more, that one counted, something was paid in by the person." */
    private static void sixthMonth() {
        Taxmaze x = new Taxmaze();
        x.pension(0, 0, 100);
        for (int month = 8; month < 16; month++) {
            x.bonus(0, month, 0, 1000);
        }
        Check.same("23: nothing yet", x.pensionOf(0, 7), 0);
        for (int month = 8; month < 13; month++) {
            Check.same("23: not vested, month " + month, x.pensionOf(0, month), 100 * (month - 7));
        }
        Check.same("23: the sixth month, in the next year", x.pensionOf(0, 13), 6 * 150);
        Check.same("23: the seventh", x.pensionOf(0, 14), 7 * 150);
        Check.same("23: behind them", x.pensionOf(0, 23), 8 * 150);
        x.bonus(0, 9, 0, 0);
        Check.same("23: a month without", x.pensionOf(0, 13), 500);
        Check.same("23: the sixth is a later one then", x.pensionOf(0, 14), 6 * 150);
        Check.same("23: of nobody else", x.pensionOf(1, 23), 0);
    }

    /** What is rounded to nothing was not paid in; what is paid in once the part is 0 neither; the added is of all months. */
    private static void paidIn() {
        Taxmaze x = withMonths(0, 1000, 1000, 1000, 1000, 1000, 4, 5);
        x.pension(0, 0, 100);
        Check.same("23: less than half a cent", x.pensionOf(0, 5), 500);
        Check.same("23: half a cent", x.pensionOf(0, 6), 501 + 250);
        x.pension(0, 6, 0);
        Check.same("23: no part", x.pensionOf(0, 6), 500);
        x.pension(0, 6, 200);
        Check.same("23: a cent once more", x.pensionOf(0, 6), 501 + 250);
        x.bonus(0, 6, 0, 10);
        Check.same("23: two cents, one of the employer", x.pensionOf(0, 6), 502 + 251);
        x.bonus(0, 6, 0, -10);
        Check.same("23: a gross below 0", x.pensionOf(0, 6), 500);
    }

    /** "Of what lies within each bracket, its thousandths, rounded down, added." */
    private static void bracketEnds() {
        Taxmaze x = new Taxmaze();
        x.bracket(0, 0, 0, 1000, 100);
        x.bracket(0, 0, 0, 2000, 500);
        x.bracket(0, 0, 0, 2001, 900);
        long[][] cases = {{0, 0}, {9, 0}, {10, 1}, {999, 99}, {1000, 100}, {1001, 100}, {1002, 101}, {1999, 599}, {2000, 600}, {2001, 600},
            {2002, 600}, {10000000000L, 600}};
        for (long[] one : cases) {
            Check.same("19: on " + one[0], x.yearTax(0, 0, 0, one[0]), one[1]);
        }
        x.bracket(0, 0, 0, 2003, 900);
        Check.same("19: one of the last bracket", x.yearTax(0, 0, 0, 2002), 600);
        Check.same("19: two of the last bracket", x.yearTax(0, 0, 0, 2003), 601);
    }

    private static void fourBrackets() {
        Taxmaze x = new Taxmaze();
        for (int number = 1; number <= 4; number++) {
            Check.same("16: how many", x.bracket(2, 1, 7, number, 900), number);
        }
        for (int number = 0; number <= 4; number++) {
            Check.same("19: nine tenths of a cent, rounded down, on " + number, x.yearTax(2, 1, 7, number), 0);
        }
        Taxmaze y = new Taxmaze();
        for (int number = 1; number <= 4; number++) {
            y.bracket(2, 1, 7, 1000 * number, 100 * number);
        }
        Check.same("19: each of the four", y.yearTax(2, 1, 7, 4000), 1000);
        Check.same("19: three of them and a half", y.yearTax(2, 1, 7, 3500), 800);
        Check.same("19: nothing above them", y.yearTax(2, 1, 7, 4001), 1000);
        Check.same("19: ahead of the month", y.yearTax(2, 1, 6, 4000), 0);
        Check.same("19: to the last month", y.yearTax(2, 1, 23, 4000), 1000);
    }

    private static void greatestTax() {
        Taxmaze x = new Taxmaze();
        x.bracket(0, 0, 0, BILLION, 900);
        Check.same("19: the greatest", x.yearTax(0, 0, 0, 10000000000L), 900000000);
        Check.same("19: a cent below the end", x.yearTax(0, 0, 0, BILLION - 1), 899999999);
        x.contract(0, 0, 0, 719, true, 60, 1000000);
        for (int day = 0; day < 40; day++) {
            x.shift(0, day, 0, 1440);
        }
        Check.same("20: twelve parts of more than the end", x.slip(0, 0, Taxmaze.TAX), 75000000);
        Check.same("20: two parts", x.slip(0, 1, Taxmaze.TAX), 75000000);
        Check.same("20: it stays above the end", x.slip(0, 11, Taxmaze.TAX), 75000000);
    }

    /** "All tables are without brackets": nothing is taxed. "Above the last one nothing is taxed." */
    private static void noBrackets() {
        Taxmaze x = withMonths(0, 10000000, 10000000);
        lines("20: no brackets", x, Taxmaze.TAX, 0, 0);
        x.bracket(0, 0, 1, BILLION, 100);
        lines("20: brackets of the second month", x, Taxmaze.TAX, 0, 2000000);
        x.bracket(0, 1, 0, BILLION, 900);
        x.bracket(1, 0, 0, BILLION, 900);
        lines("20: those of others do not count", x, Taxmaze.TAX, 0, 2000000);
    }

    private static void aboveTheLast() {
        int[][] cases = {{99, 9}, {100, 10}, {101, 10}, {10000000, 10}};
        for (int[] one : cases) {
            Taxmaze x = withMonths(0, one[0]);
            x.bracket(0, 0, 0, 1200, 100);
            Check.same("20: a month of " + one[0], x.slip(0, 0, Taxmaze.TAX), one[1]);
        }
    }

    /** "12 parts for as many months as have gone (the month counted)", and as many twelfths of the tax. */
    private static void monthsGone() {
        for (int month = 0; month < 24; month++) {
            Taxmaze x = new Taxmaze();
            x.bracket(0, 0, 0, 1200000, 0);
            x.bracket(0, 0, 0, BILLION, 500);
            x.bonus(0, month, 0, 1200000);
            int gone = month % 12 + 1;
            long ofYear = (1200000L * 12 / gone - 1200000) / 2;
            Check.same("20: in the month " + month, x.slip(0, month, Taxmaze.TAX), ofYear * gone / 12);
            if (month > 0) {
                Check.same("20: ahead of it", x.slip(0, month - 1, Taxmaze.TAX), 0);
            }
        }
        Taxmaze x = withMonths(0, 1200000);
        x.bracket(0, 0, 0, 1200000, 0);
        x.bracket(0, 0, 0, BILLION, 500);
        lines("20: a month of 1200000, and none behind it", x, Taxmaze.TAX, 550000, -50000, -50000, -50000, -50000, -50000, -50001, -49999,
            -50000, -50000, -50001, -49999, 0);
    }

    /** Rounded down thrice: the 12 parts, what lies within a bracket, and the twelfths. */
    private static void roundedDown() {
        Taxmaze x = withMonths(0, 0, 0, 0, 0, 101);
        x.bracket(0, 0, 0, 242, 0);
        x.bracket(0, 0, 0, BILLION, 900);
        Check.same("20: 242.4 a year are 242", x.slip(0, 4, Taxmaze.TAX), 0);
        x.bonus(0, 4, 0, 102);
        Check.same("20: 244.8 a year are 244, 1.8 on it are 1, five twelfths are none", x.slip(0, 4, Taxmaze.TAX), 0);
        x.bonus(0, 4, 0, 103);
        Check.same("20: 247.2 a year are 247, 4.5 on it are 4, five twelfths are one", x.slip(0, 4, Taxmaze.TAX), 1);
        Taxmaze w = withMonths(0, 0, 0, 0, 0, 0, 0, 1005);
        w.bracket(0, 0, 0, BILLION, 900);
        Check.same("20: 1722.86 a year are 1722, 1549.8 on it are 1549, seven twelfths are 903.58", w.slip(0, 6, Taxmaze.TAX), 903);
        Taxmaze y = withMonths(0, 10);
        y.bracket(0, 0, 0, BILLION, 191);
        Check.same("20: 120 a year, 22.92 on it are 22, a twelfth is one", y.slip(0, 0, Taxmaze.TAX), 1);
        Taxmaze z = withMonths(0, 10);
        z.bracket(0, 0, 0, BILLION, 200);
        Check.same("20: 24 on it, a twelfth is two", z.slip(0, 0, Taxmaze.TAX), 2);
    }

    /** "Of what was taxed in the year so far, at least 0"; the tax of a month "can be below 0". */
    private static void taxedBelowNothing() {
        Taxmaze x = withMonths(0, -1000, 400, 600, 1000, -1000, -1, 500);
        x.bracket(0, 0, 0, BILLION, 100);
        lines("20: losses", x, Taxmaze.TAX, 0, 0, 0, 100, -100, 0, 49);
        Taxmaze y = withMonths(0, 1000, -3000, 1000, 1000, 1000);
        y.bracket(0, 0, 0, BILLION, 100);
        lines("20: all comes back, but no more", y, Taxmaze.TAX, 100, -100, 0, 0, 100);
    }

    /** "The gross there less the contribution, and, in the place to which elements belong, less the pension." */
    private static void whatIsTaxed() {
        for (int home = 0; home < 3; home++) {
            Taxmaze x = new Taxmaze();
            x.contract(0, home, 0, 29, false, 480, 0);
            x.pension(0, 0, 100);
            for (int place = 0; place < 3; place++) {
                x.bonus(0, 0, place, 10000);
                x.contribution(place, 0, 50, MOST);
                x.bracket(place, 0, 0, BILLION, 500);
            }
            for (int place = 0; place < 3; place++) {
                Check.same("21: home is " + home + ", the tax of " + place, x.slipIn(0, 0, place, Taxmaze.TAX), place == home ? 3250 : 4750);
            }
            Check.same("20: of all places", x.slip(0, 0, Taxmaze.TAX), 3250 + 2 * 4750);
        }
        Taxmaze x = new Taxmaze();
        x.contract(0, 1, 0, 29, false, 480, 0);
        x.pension(0, 0, 100);
        x.bracket(1, 0, 0, BILLION, 500);
        x.bonus(0, 0, 0, 10000);
        x.bonus(0, 1, 1, 4000);
        Check.same("21: a pension above the gross at home", x.slipIn(0, 0, 1, Taxmaze.TAX), 0);
        Check.same("21: lessens what is taxed later", x.slipIn(0, 1, 1, Taxmaze.TAX), 1500);
    }

    /** The year 2 knows nothing of the year 1: neither gross, nor what counted, nor what was taxed, nor its tax. */
    private static void yearsApart() {
        Taxmaze x = new Taxmaze();
        x.contribution(0, 0, 100, 5000);
        x.bracket(0, 0, 0, 20000, 0);
        x.bracket(0, 0, 0, BILLION, 500);
        for (int month = 0; month < 24; month++) {
            x.bonus(0, month, 0, 1000 * (month % 12) - 2000);
        }
        for (int month = 0; month < 12; month++) {
            for (int what : new int[] {Taxmaze.CONTRIBUTION, Taxmaze.TAX, Taxmaze.NET}) {
                Check.same("20: line " + what + " of the month " + month, x.slip(0, month + 12, what), x.slip(0, month, what));
            }
        }
        Check.same("20: there was a tax", x.slip(0, 11, Taxmaze.TAX) != 0, true);
    }

    private static void stateOfMonth() {
        Taxmaze x = withMonths(0, 1200, 1200, 1200);
        x.bracket(0, 0, 0, BILLION, 100);
        x.bracket(0, 1, 0, BILLION, 200);
        x.state(0, 1, 1);
        x.state(0, 2, 0);
        lines("17: of the whole year so far", x, Taxmaze.TAX, 120, 360, -120);
        x.state(1, 0, 1);
        lines("17: of nobody else", x, Taxmaze.TAX, 120, 360, -120);
    }

    /** "The net is the gross less contributions, pension and taxes." */
    private static void net() {
        Taxmaze x = withMonths(0, 10000, -10000);
        x.contribution(0, 0, 100, MOST);
        x.pension(0, 0, 50);
        x.bracket(0, 0, 0, BILLION, 200);
        lines("20: the net, and one below 0 with a tax below 0", x, Taxmaze.NET, 10000 - 1000 - 500 - 1700, -10000 + 1700);
        lines("20: all of it is the payout", x, Taxmaze.PAYOUT, 6800, -8300);
        lines("20: nothing is taken", x, Taxmaze.TAKEN, 0, 0);
    }

    /** Promise 24: "the bonus told for that month and place being more by it", and nothing else being told. */
    private static void netForBonus() {
        Taxmaze x = withMonths(1, 0, -50000);
        x.contract(0, 1, 0, 719, false, 480, 100000);
        x.contribution(1, 0, 200, 200000);
        x.bracket(1, 0, 0, BILLION, 250);
        x.pension(0, 0, 100);
        Check.same("20: the net ahead of it", x.slip(0, 0, Taxmaze.NET), 100000 - 20000 - 10000 - 17500);
        Check.same("24: 5250 more for each step", x.grossFor(0, 0, 1, 5250), 10000);
        Check.same("24: a cent more", x.grossFor(0, 0, 1, 5251), 20000);
        Check.same("24: up to the ceiling", x.grossFor(0, 0, 1, 52500), 100000);
        Check.same("24: 6750 above it", x.grossFor(0, 0, 1, 59250), 110000);
        Check.same("24: a cent more than that", x.grossFor(0, 0, 1, 59251), 120000);
        Check.same("24: in another place but for the pension at home", x.grossFor(0, 0, 0, 9250), 10000);
        Check.same("24: a cent more there", x.grossFor(0, 0, 0, 9251), 20000);
        Check.same("24: behind a loss", x.grossFor(0, 1, 1, 5250), 10000);
        Check.same("24: the next month is as it was", x.slip(0, 1, Taxmaze.GROSS), 50000);
        x.garnish(0, 0, 0, 1000000, 1000, 0);
        Check.same("24: garnishments are not of the net", x.grossFor(0, 0, 1, 5250), 10000);
        x.word(Taxmaze.BASE, 0);
        x.word(Taxmaze.MONEY, 10);
        x.word(Taxmaze.PERMILLE, 0);
        x.element(0, 63);
        Check.same("20: a hundredth of the base", x.slip(0, 0, Taxmaze.GROSS), 101000);
        Check.same("24: elements come to what they did", x.grossFor(0, 0, 1, 5250), 10000);
        Check.same("24: and no more", x.grossFor(0, 0, 1, 5251), 20000);
    }
}
