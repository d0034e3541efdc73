/** Promises 15 to 19: contributions, brackets, states, pensions and the tax of a year. */
final class TablesTest {
    private static final int BILLION = 1000000000;

    private TablesTest() {
    }

    static void run() {
        contribution();
        ceilings();
        contributionByMonths();
        contributionLessened();
        bracket();
        bracketsByMonths();
        yearTax();
        state();
        pension();
        pensionByMonths();
    }

    /** An object in which a person has this much in these months, in the place 0. */
    private static Taxmaze withMonths(int cents, int... months) {
        Taxmaze x = new Taxmaze();
        for (int month : months) {
            x.bonus(0, month, 0, cents);
        }
        return x;
    }

    private static void contribution() {
        Taxmaze x = withMonths(100, 0);
        Check.missing("15: place -1", () -> x.contribution(-1, 0, 0, 0));
        Check.missing("15: place 3", () -> x.contribution(3, 0, 0, 0));
        Check.missing("15: month -1", () -> x.contribution(0, -1, 0, 0));
        Check.missing("15: month 24, ahead of the part", () -> x.contribution(0, 24, 501, 0));
        Check.unfit("15: part -1", () -> x.contribution(0, 0, -1, 0));
        Check.unfit("15: part 501", () -> x.contribution(0, 0, 501, 0));
        Check.unfit("15: ceiling -1", () -> x.contribution(0, 0, 0, -1));
        Check.unfit("15: ceiling above", () -> x.contribution(0, 0, 0, 100000001));
        Check.same("15: nothing at first", x.slip(0, 0, Taxmaze.CONTRIBUTION), 0);
        x.contribution(0, 0, 500, 100000000);
        Check.same("15: a half", x.slip(0, 0, Taxmaze.CONTRIBUTION), 50);
        x.contribution(0, 0, 5, 100000000);
        Check.same("15: the last told counts, halves up", x.slip(0, 0, Taxmaze.CONTRIBUTION), 1);
        x.contribution(0, 0, 4, 100000000);
        Check.same("15: rounded down", x.slip(0, 0, Taxmaze.CONTRIBUTION), 0);
        x.contribution(1, 0, 500, 100000000);
        Check.same("15: of another place", x.slip(0, 0, Taxmaze.CONTRIBUTION), 0);
        x.contribution(0, 0, 500, 0);
        Check.same("15: a ceiling of 0", x.slip(0, 0, Taxmaze.CONTRIBUTION), 0);
    }

    private static void ceilings() {
        Taxmaze x = withMonths(100000, 0, 1, 2, 3, 12);
        x.contribution(0, 0, 100, 250000);
        Check.same("15: whole", x.slip(0, 0, Taxmaze.CONTRIBUTION), 10000);
        Check.same("15: whole again", x.slip(0, 1, Taxmaze.CONTRIBUTION), 10000);
        Check.same("15: up to the ceiling", x.slip(0, 2, Taxmaze.CONTRIBUTION), 5000);
        Check.same("15: nothing above", x.slip(0, 3, Taxmaze.CONTRIBUTION), 0);
        Check.same("15: a new year", x.slip(0, 12, Taxmaze.CONTRIBUTION), 10000);
        x.contribution(0, 1, 100, 50000);
        Check.same("15: a ceiling below what counted", x.slip(0, 1, Taxmaze.CONTRIBUTION), 0);
        x.contribution(0, 2, 100, 300000);
        Check.same("15: a higher one makes up for it", x.slip(0, 2, Taxmaze.CONTRIBUTION), 20000);
        x.contribution(0, 0, 0, 100000000);
        x.contribution(0, 1, 100, 1000000);
        Check.same("15: what counted at no part counted", x.slip(0, 1, Taxmaze.CONTRIBUTION), 10000);
    }

    private static void contributionByMonths() {
        Taxmaze x = withMonths(1000, 0, 1, 2, 3, 23);
        x.contribution(0, 2, 20, 100000000);
        x.contribution(0, 1, 10, 100000000);
        Check.same("15: what did not count at the ceiling 0 counts then", x.slip(0, 1, Taxmaze.CONTRIBUTION), 20);
        x.contribution(0, 0, 0, 100000000);
        Check.same("15: ahead", x.slip(0, 0, Taxmaze.CONTRIBUTION), 0);
        Check.same("15: from a month on", x.slip(0, 1, Taxmaze.CONTRIBUTION), 10);
        Check.same("15: a later one holds on", x.slip(0, 3, Taxmaze.CONTRIBUTION), 20);
        Check.same("15: to the end", x.slip(0, 23, Taxmaze.CONTRIBUTION), 20);
    }

    private static void contributionLessened() {
        Taxmaze x = withMonths(100000, 0, 2);
        x.bonus(0, 1, 0, -50000);
        x.contribution(0, 0, 100, 100000000);
        Check.same("15: below 0 nothing", x.slip(0, 1, Taxmaze.CONTRIBUTION), 0);
        Check.same("15: but the year so far is less", x.slip(0, 2, Taxmaze.CONTRIBUTION), 5000);
        x.bonus(0, 0, 0, -70000);
        Check.same("15: still below 0", x.slip(0, 2, Taxmaze.CONTRIBUTION), 0);
    }

    private static void bracket() {
        Taxmaze x = new Taxmaze();
        Check.missing("16: place -1", () -> x.bracket(-1, 0, 0, 1, 0));
        Check.missing("16: place 3", () -> x.bracket(3, 0, 0, 1, 0));
        Check.missing("16: month -1", () -> x.bracket(0, 0, -1, 1, 0));
        Check.missing("16: month 24, ahead of the state", () -> x.bracket(0, 2, 24, 1, 0));
        Check.unfit("16: state -1", () -> x.bracket(0, -1, 0, 1, 0));
        Check.unfit("16: state 2", () -> x.bracket(0, 2, 0, 1, 0));
        Check.unfit("16: end 0", () -> x.bracket(0, 0, 0, 0, 0));
        Check.unfit("16: end above", () -> x.bracket(0, 0, 0, BILLION + 1, 0));
        Check.unfit("16: part -1", () -> x.bracket(0, 0, 0, 1, -1));
        Check.unfit("16: part 901", () -> x.bracket(0, 0, 0, 1, 901));
        Check.same("16: the first", x.bracket(0, 0, 0, 1000, 100), 1);
        Check.refused("16: the same end", () -> x.bracket(0, 0, 0, 1000, 100));
        Check.refused("16: a lower end", () -> x.bracket(0, 0, 0, 999, 100));
        Check.unfit("16: the part ahead of that", () -> x.bracket(0, 0, 0, 999, 901));
        Check.same("16: the second", x.bracket(0, 0, 0, 2000, 200), 2);
        Check.same("16: another state", x.bracket(0, 1, 0, 1, 900), 1);
        Check.same("16: another place", x.bracket(2, 0, 0, 1, 0), 1);
        Check.same("16: the third", x.bracket(0, 0, 0, 3000, 300), 3);
        Check.same("16: the fourth", x.bracket(0, 0, 0, BILLION - 1, 400), 4);
        Check.refused("16: five", () -> x.bracket(0, 0, 0, BILLION, 400));
        Check.same("16: five in a later month, the first there", x.bracket(0, 0, 1, BILLION, 400), 1);
        Check.unfit("16: the end ahead of five", () -> x.bracket(0, 0, 0, 0, 400));
        Check.same("16: all four", x.yearTax(0, 0, 0, 4000), 100 + 200 + 300 + 400);
    }

    private static void bracketsByMonths() {
        Taxmaze x = new Taxmaze();
        x.bracket(0, 0, 0, 1000, 100);
        x.bracket(0, 0, 0, 2000, 200);
        Check.same("16: begun anew", x.bracket(0, 0, 5, 500, 300), 1);
        Check.same("16: ahead of it as it was", x.yearTax(0, 0, 4, 1500), 200);
        Check.same("16: the new ones", x.yearTax(0, 0, 5, 1500), 150);
        Check.same("16: to the end", x.yearTax(0, 0, 23, 1500), 150);
        Check.same("16: between them", x.bracket(0, 0, 3, 1000, 10), 1);
        Check.same("16: up to the next", x.yearTax(0, 0, 4, 1500), 10);
        Check.same("16: ahead of these", x.yearTax(0, 0, 2, 1500), 200);
        Check.same("16: the next ones hold on", x.yearTax(0, 0, 5, 1500), 150);
        Check.same("16: more of the first ones", x.bracket(0, 0, 0, 3000, 300), 3);
        Check.same("16: they count ahead only", x.yearTax(0, 0, 2, 5000) * 10 + x.yearTax(0, 0, 3, 5000), 6010);
    }

    private static void yearTax() {
        Taxmaze x = new Taxmaze();
        Check.missing("19: place -1", () -> x.yearTax(-1, 0, 0, 0));
        Check.missing("19: place 3", () -> x.yearTax(3, 0, 0, 0));
        Check.missing("19: month -1", () -> x.yearTax(0, 0, -1, 0));
        Check.missing("19: month 24, ahead of the amount", () -> x.yearTax(0, 0, 24, -1));
        Check.unfit("19: state 2", () -> x.yearTax(0, 2, 0, 0));
        Check.unfit("19: state -1", () -> x.yearTax(0, -1, 0, 0));
        Check.unfit("19: amount -1", () -> x.yearTax(0, 0, 0, -1));
        Check.unfit("19: amount above", () -> x.yearTax(0, 0, 0, 10000000001L));
        Check.same("19: no brackets", x.yearTax(0, 0, 0, 10000000000L), 0);
        x.bracket(0, 0, 0, 999, 1);
        x.bracket(0, 0, 0, 1998, 1);
        Check.same("19: each is rounded down", x.yearTax(0, 0, 0, 1998), 0);
        x.bracket(0, 0, 0, 2998, 1);
        Check.same("19: a whole one", x.yearTax(0, 0, 0, 2998), 1);
        Check.same("19: a cent less", x.yearTax(0, 0, 0, 2997), 0);
        x.bracket(0, 0, 0, BILLION, 900);
        Check.same("19: above the last one nothing", x.yearTax(0, 0, 0, 10000000000L), 1 + (BILLION - 2998L) * 900 / 1000);
        Check.same("19: nothing of nothing", x.yearTax(0, 0, 0, 0), 0);
        Check.same("19: another state", x.yearTax(0, 1, 0, BILLION), 0);
        Check.same("19: another place", x.yearTax(1, 0, 0, BILLION), 0);
    }

    private static void state() {
        Taxmaze x = withMonths(120000, 0, 1);
        Check.missing("17: person -1", () -> x.state(-1, 0, 0));
        Check.missing("17: person 6", () -> x.state(6, 0, 0));
        Check.missing("17: month -1", () -> x.state(0, -1, 0));
        Check.missing("17: month 24, ahead of the state", () -> x.state(0, 24, 2));
        Check.unfit("17: state -1", () -> x.state(0, 0, -1));
        Check.unfit("17: state 2", () -> x.state(0, 0, 2));
        x.bracket(0, 0, 0, BILLION, 100);
        x.bracket(0, 1, 0, BILLION, 200);
        Check.same("17: 0 at first", x.slip(0, 0, Taxmaze.TAX), 12000);
        x.state(0, 1, 1);
        Check.same("17: ahead of it", x.slip(0, 0, Taxmaze.TAX), 12000);
        Check.same("17: the whole year by that of the month", x.slip(0, 1, Taxmaze.TAX), 36000);
        Check.same("17: it holds on", x.slip(0, 2, Taxmaze.TAX), 0);
        x.state(0, 2, 0);
        Check.same("17: and back", x.slip(0, 2, Taxmaze.TAX), -24000);
        x.state(0, 1, 0);
        Check.same("17: the last told counts", x.slip(0, 1, Taxmaze.TAX), 12000);
        x.state(1, 0, 1);
        Check.same("17: somebody else", x.slip(0, 0, Taxmaze.TAX), 12000);
    }

    private static void pension() {
        Taxmaze x = withMonths(100008, 0);
        Check.missing("18: person -1", () -> x.pension(-1, 0, 0));
        Check.missing("18: person 6", () -> x.pension(6, 0, 0));
        Check.missing("18: month -1", () -> x.pension(0, -1, 0));
        Check.missing("18: month 24, ahead of the part", () -> x.pension(0, 24, 201));
        Check.unfit("18: part -1", () -> x.pension(0, 0, -1));
        Check.unfit("18: part 201", () -> x.pension(0, 0, 201));
        Check.same("18: nothing at first", x.slip(0, 0, Taxmaze.PENSION), 0);
        int[][] cases = {{60, 6000, 5000}, {200, 20002, 5000}, {51, 5100, 5000}, {50, 5000, 5000}, {49, 4900, 4900}, {0, 0, 0}};
        for (int[] one : cases) {
            x.pension(0, 0, one[0]);
            Check.same("18: the part " + one[0], x.slip(0, 0, Taxmaze.PENSION), one[1]);
            Check.same("18: the employer's of " + one[0], x.slip(0, 0, Taxmaze.MATCH), one[2]);
        }
        x.pension(0, 0, 20);
        x.bonus(0, 0, 0, 25);
        Check.same("18: halves up", x.slip(0, 0, Taxmaze.PENSION), 1);
        Check.same("18: the employer's too", x.slip(0, 0, Taxmaze.MATCH), 1);
        x.bonus(0, 0, 0, 24);
        Check.same("18: less than a half", x.slip(0, 0, Taxmaze.PENSION), 0);
        Check.same("18: less than a half of the employer's", x.slip(0, 0, Taxmaze.MATCH), 0);
        x.bonus(0, 0, 0, -100000);
        Check.same("18: 0 of less than 0", x.slip(0, 0, Taxmaze.PENSION) + x.slip(0, 0, Taxmaze.MATCH), 0);
        x.bonus(0, 0, 2, 300000);
        Check.same("18: of all places", x.slip(0, 0, Taxmaze.PENSION), 4000);
        Check.same("18: the net", x.slip(0, 0, Taxmaze.NET), 196000);
    }

    private static void pensionByMonths() {
        Taxmaze x = withMonths(1000, 0, 1, 2, 23);
        x.pension(0, 2, 20);
        x.pension(0, 1, 10);
        Check.same("18: ahead", x.slip(0, 0, Taxmaze.PENSION), 0);
        Check.same("18: from a month on", x.slip(0, 1, Taxmaze.PENSION), 10);
        Check.same("18: a later one holds on", x.slip(0, 23, Taxmaze.PENSION), 20);
    }
}
