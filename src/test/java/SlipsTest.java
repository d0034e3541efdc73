/** Promises 20, 21, 23 and 24: slips, pensions and what has to be paid for a net. */
final class SlipsTest {
    private static final int BILLION = 1000000000;

    private SlipsTest() {
    }

    static void run() {
        wrongArguments();
        twoPlaces();
        homes();
        taxOfMonths();
        taxBelowNothing();
        allNow();
        vesting();
        grossFor();
        grossForNothingToldOtherwise();
        grossForFallingNet();
    }

    private static void wrongArguments() {
        Taxmaze x = new Taxmaze();
        Check.missing("20: person -1", () -> x.slip(-1, 0, 0));
        Check.missing("20: person 6", () -> x.slip(6, 0, 0));
        Check.missing("20: month -1", () -> x.slip(0, -1, 0));
        Check.missing("20: month 24, ahead of what", () -> x.slip(0, 24, 8));
        Check.unfit("20: what -1", () -> x.slip(0, 0, -1));
        Check.unfit("20: what 8", () -> x.slip(0, 0, 8));
        Check.missing("21: person -1", () -> x.slipIn(-1, 0, 0, 0));
        Check.missing("21: person 6", () -> x.slipIn(6, 0, 0, 0));
        Check.missing("21: month -1", () -> x.slipIn(0, -1, 0, 0));
        Check.missing("21: month 24", () -> x.slipIn(0, 24, 0, 0));
        Check.missing("21: place -1", () -> x.slipIn(0, 0, -1, 0));
        Check.missing("21: place 3, ahead of what", () -> x.slipIn(0, 0, 3, 2));
        for (int what = -1; what <= 8; what++) {
            int asked = what;
            if (what != Taxmaze.GROSS && what != Taxmaze.CONTRIBUTION && what != Taxmaze.TAX) {
                Check.unfit("21: what " + what, () -> x.slipIn(0, 0, 0, asked));
            }
        }
        Check.missing("23: person -1", () -> x.pensionOf(-1, 0));
        Check.missing("23: person 6", () -> x.pensionOf(6, 0));
        Check.missing("23: month -1", () -> x.pensionOf(0, -1));
        Check.missing("23: month 24", () -> x.pensionOf(0, 24));
    }

    private static void twoPlaces() {
        Taxmaze x = new Taxmaze();
        x.contract(2, 1, 0, 719, false, 480, 100000);
        x.contract(2, 2, 0, 719, false, 480, 50000);
        x.bonus(2, 0, 0, 20000);
        x.contribution(1, 0, 100, 100000000);
        x.pension(2, 0, 100);
        x.bracket(1, 0, 0, BILLION, 100);
        x.bracket(2, 0, 0, BILLION, 200);
        long[] due = {170000, 10000, 17000, 17300, 125700, 0, 125700, 8500};
        for (int what = Taxmaze.GROSS; what <= Taxmaze.MATCH; what++) {
            Check.same("20: line " + what, x.slip(2, 0, what), due[what]);
        }
        long[][] places = {{20000, 0, 0}, {100000, 10000, 7300}, {50000, 0, 10000}};
        for (int place = 0; place < 3; place++) {
            Check.same("21: gross in " + place, x.slipIn(2, 0, place, Taxmaze.GROSS), places[place][0]);
            Check.same("21: contribution in " + place, x.slipIn(2, 0, place, Taxmaze.CONTRIBUTION), places[place][1]);
            Check.same("21: tax in " + place, x.slipIn(2, 0, place, Taxmaze.TAX), places[place][2]);
        }
    }

    private static void homes() {
        Taxmaze x = new Taxmaze();
        x.word(Taxmaze.MONEY, 1000);
        x.element(0, 63);
        x.contract(0, 1, 29, 30, false, 480, 0);
        x.contract(0, 2, 0, 65, false, 480, 0);
        int[] home = {1, 1, 2, 0};
        for (int month = 0; month < 4; month++) {
            for (int place = 0; place < 3; place++) {
                Check.same("21: an element in " + place + ", month " + month, x.slipIn(0, month, place, Taxmaze.GROSS),
                    place == home[month] ? 1000 : 0);
            }
        }
        Check.same("21: without a contract", x.slipIn(1, 5, 0, Taxmaze.GROSS), 1000);
        Taxmaze z = new Taxmaze();
        z.contract(0, 1, 30, 59, false, 480, 0);
        z.contract(0, 2, 0, 719, false, 480, 0);
        z.word(Taxmaze.MONEY, 1000);
        z.element(0, 63);
        Check.same("21: the day ahead of a contract", z.slipIn(0, 0, 2, Taxmaze.GROSS), 1000);
        Check.same("21: the days of it", z.slipIn(0, 1, 1, Taxmaze.GROSS), 1000);
        Check.same("21: the day behind it", z.slipIn(0, 2, 2, Taxmaze.GROSS), 1000);
        Taxmaze y = new Taxmaze();
        y.contract(0, 2, 0, 719, false, 480, 0);
        y.bonus(0, 0, 1, 10000);
        y.bonus(0, 0, 2, 10000);
        y.pension(0, 0, 100);
        y.bracket(1, 0, 0, BILLION, 500);
        y.bracket(2, 0, 0, BILLION, 500);
        Check.same("21: the pension does not lessen this", y.slipIn(0, 0, 1, Taxmaze.TAX), 5000);
        Check.same("21: but this, though there are no elements", y.slipIn(0, 0, 2, Taxmaze.TAX), 4000);
    }

    private static void taxOfMonths() {
        Taxmaze x = new Taxmaze();
        x.bonus(0, 6, 0, 1000);
        x.bracket(0, 0, 0, BILLION, 900);
        Check.same("20: nothing ahead", x.slip(0, 5, Taxmaze.TAX), 0);
        Check.same("20: 1714 a year, 1542 on it, seven twelfths", x.slip(0, 6, Taxmaze.TAX), 899);
        Check.same("20: 1500 a year, 1350 on it, eight twelfths", x.slip(0, 7, Taxmaze.TAX), 1);
        Check.same("20: 1333 a year, 1199 on it, nine twelfths", x.slip(0, 8, Taxmaze.TAX), -1);
        Check.same("20: a new year", x.slip(0, 12, Taxmaze.TAX), 0);
        x.bonus(1, 6, 0, 1005);
        Check.same("20: 1722.86 a year are 1722, 1549 on it", x.slip(1, 6, Taxmaze.TAX), 903);
        Taxmaze y = new Taxmaze();
        y.bracket(0, 0, 0, 1200000, 0);
        y.bracket(0, 0, 0, 2400000, 200);
        y.bracket(0, 0, 12, BILLION, 100);
        y.bonus(0, 0, 0, 150000);
        y.bonus(0, 12, 0, 150000);
        Check.same("20: above what is free, as if each month was so", y.slip(0, 0, Taxmaze.TAX), 10000);
        Check.same("20: the mean of two months is below it", y.slip(0, 1, Taxmaze.TAX), -10000);
        Check.same("20: by other brackets in the next year", y.slip(0, 12, Taxmaze.TAX), 15000);
    }

    private static void taxBelowNothing() {
        Taxmaze x = new Taxmaze();
        x.bracket(0, 0, 0, BILLION, 100);
        x.bonus(0, 0, 0, 100000);
        x.bonus(0, 1, 0, -150000);
        x.bonus(0, 2, 0, 80000);
        Check.same("20: of what was there", x.slip(0, 0, Taxmaze.TAX), 10000);
        Check.same("20: it comes back, but no more", x.slip(0, 1, Taxmaze.TAX), -10000);
        Check.same("20: the loss still counts", x.slip(0, 2, Taxmaze.TAX), 3000);
        Check.same("20: a net below 0", x.slip(0, 1, Taxmaze.NET), -140000);
        Check.same("20: so is its payout", x.slip(0, 1, Taxmaze.PAYOUT), -140000);
    }

    /** Each telling has to show at once in a slip that was asked for ahead of it. */
    private static void allNow() {
        Taxmaze x = new Taxmaze();
        x.close();
        Check.same("20: nothing", x.slip(0, 0, Taxmaze.GROSS), 0);
        x.contract(0, 0, 0, 719, true, 480, 600);
        x.shift(0, 29, 0, 60);
        Check.same("20: a shift", x.slip(0, 0, Taxmaze.GROSS), 600);
        x.pay(0, 0, 1200);
        Check.same("20: a pay", x.slip(0, 0, Taxmaze.GROSS), 1200);
        x.word(Taxmaze.HOURS, 0);
        x.element(0, 1);
        Check.same("20: an element", x.slip(0, 0, Taxmaze.GROSS), 1201);
        x.leave(0, 35);
        Check.same("20: leave that is not there", x.slip(0, 1, Taxmaze.GROSS), 0);
        x.leaveRule(10, 0, 1);
        Check.same("20: leave that is", x.slip(0, 1, Taxmaze.GROSS), 9600);
        x.bonus(0, 0, 0, 99);
        Check.same("20: a bonus", x.slip(0, 0, Taxmaze.GROSS), 1300);
        x.contribution(0, 0, 100, 100000);
        Check.same("20: a contribution", x.slip(0, 0, Taxmaze.NET), 1170);
        x.pension(0, 0, 100);
        Check.same("20: a pension", x.slip(0, 0, Taxmaze.NET), 1040);
        x.bracket(0, 0, 0, BILLION, 500);
        Check.same("20: a bracket", x.slip(0, 0, Taxmaze.NET), 520);
        x.state(0, 0, 1);
        Check.same("20: a state", x.slip(0, 0, Taxmaze.NET), 1040);
        x.garnish(0, 0, 0, 1000, 500, 0);
        Check.same("20: a garnishment", x.slip(0, 0, Taxmaze.TAKEN), 520);
        Check.same("20: the payout", x.slip(0, 0, Taxmaze.PAYOUT), 520);
        x.advance(0, 1);
        Check.same("20: an advance of the open month", x.slip(0, 0, Taxmaze.PAYOUT), 520);
    }

    private static void vesting() {
        Taxmaze x = new Taxmaze();
        x.pension(0, 0, 100);
        for (int month : new int[] {0, 2, 4, 10, 13, 20}) {
            x.bonus(0, month, 0, 1000);
        }
        Check.same("23: the first", x.pensionOf(0, 0), 100);
        Check.same("23: none in this month", x.pensionOf(0, 1), 100);
        Check.same("23: five of them", x.pensionOf(0, 19), 500);
        Check.same("23: six of them, over the years", x.pensionOf(0, 20), 600 + 6 * 50);
        Check.same("23: to the end", x.pensionOf(0, 23), 900);
        x.bonus(0, 4, 0, 4);
        Check.same("23: nothing paid in is no month", x.pensionOf(0, 23), 500);
        x.bonus(0, 4, 0, 5);
        Check.same("23: a cent is", x.pensionOf(0, 23), 501 + 250);
        x.bonus(0, 23, 0, 1000);
        Check.same("23: as it is in that month", x.pensionOf(0, 22), 751);
        Check.same("23: and in this", x.pensionOf(0, 23), 901);
    }

    private static void grossFor() {
        Taxmaze x = new Taxmaze();
        Check.missing("24: person -1", () -> x.grossFor(-1, 0, 0, 1));
        Check.missing("24: person 6", () -> x.grossFor(6, 0, 0, 1));
        Check.missing("24: month -1", () -> x.grossFor(0, -1, 0, 1));
        Check.missing("24: month 24", () -> x.grossFor(0, 24, 0, 1));
        Check.missing("24: place -1", () -> x.grossFor(0, 0, -1, 1));
        Check.missing("24: place 3, ahead of the net", () -> x.grossFor(0, 0, 3, 0));
        Check.unfit("24: net 0", () -> x.grossFor(0, 0, 0, 0));
        Check.unfit("24: net above", () -> x.grossFor(0, 0, 0, 1000001));
        Check.same("24: the least step", x.grossFor(0, 0, 0, 1), 10000);
        Check.same("24: all of it", x.grossFor(0, 0, 0, 10000), 10000);
        Check.same("24: a cent more", x.grossFor(0, 0, 0, 10001), 20000);
        Check.same("24: the most", x.grossFor(0, 23, 2, 1000000), 1000000);
        x.contribution(0, 0, 500, 100000000);
        Check.same("24: all 200 steps", x.grossFor(0, 0, 0, 1000000), 2000000);
        x.bonus(0, 0, 0, -20000);
        Check.same("24: more than a bonus below 0", x.grossFor(0, 0, 0, 20000), 20000);
        Check.same("24: halves from there on", x.grossFor(0, 0, 0, 20001), 30000);
        x.bracket(0, 0, 0, BILLION, 1);
        x.bonus(0, 0, 0, 0);
        Check.same("24: 200 are not enough", x.grossFor(0, 0, 0, 1000000), Taxmaze.NONE);
        Check.same("24: elsewhere they are", x.grossFor(0, 0, 1, 1000000), 1000000);
        Check.same("24: in a later month, half of it less five cents", x.grossFor(0, 1, 0, 4995), 10000);
        Check.same("24: in a later month, a cent more", x.grossFor(0, 1, 0, 4996), 20000);
    }

    private static void grossForNothingToldOtherwise() {
        Taxmaze x = new Taxmaze();
        x.bonus(0, 3, 1, 30000);
        x.contribution(1, 0, 100, 40000);
        x.bracket(1, 0, 0, BILLION, 300);
        long net = x.slip(0, 3, Taxmaze.NET);
        long later = x.slip(0, 4, Taxmaze.NET);
        x.grossFor(0, 3, 1, 1000000);
        Check.same("24: the net is as it was", x.slip(0, 3, Taxmaze.NET), net);
        Check.same("24: and the later one", x.slip(0, 4, Taxmaze.NET), later);
        Check.same("24: and the bonus", x.bonus(0, 3, 1, 30000), 30000);
        int more = x.grossFor(0, 3, 1, 50000);
        x.bonus(0, 3, 1, 30000 + more);
        Check.same("24: with it the net is so much more", x.slip(0, 3, Taxmaze.NET) >= net + 50000, true);
        x.bonus(0, 3, 1, 20000 + more);
        Check.same("24: with less it is not", x.slip(0, 3, Taxmaze.NET) < net + 50000, true);
    }

    private static void grossForFallingNet() {
        Taxmaze x = new Taxmaze();
        x.pension(0, 0, 200);
        x.bracket(1, 0, 0, 240000, 0);
        x.bracket(1, 0, 0, BILLION, 900);
        Check.same("24: while it rises", x.grossFor(0, 0, 1, 8000), 10000);
        Check.same("24: at its highest", x.grossFor(0, 0, 1, 16000), 20000);
        Check.same("24: it falls again", x.grossFor(0, 0, 1, 16001), Taxmaze.NONE);
    }
}
